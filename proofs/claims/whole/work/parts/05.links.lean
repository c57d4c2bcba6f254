theorem gt_1 {w : Cond} {i : Nat} (h : tables_1_1[i]? = some w) (g : goodWord w = true) : w ∈ gt := List.mem_filter.mpr ⟨List.mem_append_right _ (List.mem_append_left _ (List.mem_of_getElem? h)), g⟩
theorem gt_2 {w : Cond} {i : Nat} (h : tables_1_2[i]? = some w) (g : goodWord w = true) : w ∈ gt := List.mem_filter.mpr ⟨List.mem_append_right _ (List.mem_append_right _ (List.mem_append_left _ (List.mem_of_getElem? h))), g⟩
theorem gt_3 {w : Cond} {i : Nat} (h : tables_1_3[i]? = some w) (g : goodWord w = true) : w ∈ gt := List.mem_filter.mpr ⟨List.mem_append_right _ (List.mem_append_right _ (List.mem_append_right _ (List.mem_append_left _ (List.mem_of_getElem? h)))), g⟩
theorem gt_4 {w : Cond} {i : Nat} (h : tables_1_4[i]? = some w) (g : goodWord w = true) : w ∈ gt := List.mem_filter.mpr ⟨List.mem_append_right _ (List.mem_append_right _ (List.mem_append_right _ (List.mem_append_right _ (List.mem_of_getElem? h)))), g⟩
theorem gt_0 {w : Cond} {i : Nat} (h : (k2_sels lw_privs)[i]? = some w) (g : goodWord w = true) : w ∈ gt := List.mem_filter.mpr ⟨List.mem_append_left _ (List.mem_of_getElem? h), g⟩
/-! WHAT THE TABLES SAY, by program out of the printed names -/
theorem uX0 : ∀ w ∈ u_ws RX0 TX0 12, w ∈ gt := by
  intro w hw
  obtain ⟨k, hk, rfl⟩ := List.mem_map.mp hw
  have hk := List.mem_range.mp hk
  match k, hk with
  | 0, _ => exact gt_1 (i := 92) rfl rfl
  | 1, _ => exact gt_1 (i := 94) rfl rfl
  | 2, _ => exact gt_1 (i := 96) rfl rfl
  | 3, _ => exact gt_1 (i := 98) rfl rfl
  | 4, _ => exact gt_1 (i := 100) rfl rfl
  | 5, _ => exact gt_1 (i := 102) rfl rfl
  | 6, _ => exact gt_1 (i := 104) rfl rfl
  | 7, _ => exact gt_1 (i := 106) rfl rfl
  | 8, _ => exact gt_1 (i := 108) rfl rfl
  | 9, _ => exact gt_1 (i := 110) rfl rfl
  | 10, _ => exact gt_1 (i := 112) rfl rfl
  | 11, _ => exact gt_1 (i := 114) rfl rfl
  | k + 12, h => exact absurd h (by omega)
theorem uX2 : ∀ w ∈ u_ws RX2 TX2 5, w ∈ gt := by
  intro w hw
  obtain ⟨k, hk, rfl⟩ := List.mem_map.mp hw
  have hk := List.mem_range.mp hk
  match k, hk with
  | 0, _ => exact gt_1 (i := 41) rfl rfl
  | 1, _ => exact gt_1 (i := 43) rfl rfl
  | 2, _ => exact gt_1 (i := 45) rfl rfl
  | 3, _ => exact gt_1 (i := 47) rfl rfl
  | 4, _ => exact gt_1 (i := 49) rfl rfl
  | k + 5, h => exact absurd h (by omega)
theorem uX3 : ∀ w ∈ u_ws RX3 TX3 9, w ∈ gt := by
  intro w hw
  obtain ⟨k, hk, rfl⟩ := List.mem_map.mp hw
  have hk := List.mem_range.mp hk
  match k, hk with
  | 0, _ => exact gt_1 (i := 135) rfl rfl
  | 1, _ => exact gt_1 (i := 137) rfl rfl
  | 2, _ => exact gt_1 (i := 139) rfl rfl
  | 3, _ => exact gt_1 (i := 141) rfl rfl
  | 4, _ => exact gt_1 (i := 143) rfl rfl
  | 5, _ => exact gt_1 (i := 145) rfl rfl
  | 6, _ => exact gt_1 (i := 147) rfl rfl
  | 7, _ => exact gt_1 (i := 149) rfl rfl
  | 8, _ => exact gt_1 (i := 151) rfl rfl
  | k + 9, h => exact absurd h (by omega)
theorem uX4 : ∀ w ∈ u_ws RX4 TX4 4, w ∈ gt := by
  intro w hw
  obtain ⟨k, hk, rfl⟩ := List.mem_map.mp hw
  have hk := List.mem_range.mp hk
  match k, hk with
  | 0, _ => exact gt_1 (i := 173) rfl rfl
  | 1, _ => exact gt_1 (i := 175) rfl rfl
  | 2, _ => exact gt_1 (i := 177) rfl rfl
  | 3, _ => exact gt_1 (i := 179) rfl rfl
  | k + 4, h => exact absurd h (by omega)
theorem uX5 : ∀ w ∈ u_ws RX5 TX5 1, w ∈ gt := by
  intro w hw
  obtain ⟨k, hk, rfl⟩ := List.mem_map.mp hw
  have hk := List.mem_range.mp hk
  match k, hk with
  | 0, _ => exact gt_1 (i := 68) rfl rfl
  | k + 1, h => exact absurd h (by omega)
theorem uX6 : ∀ w ∈ u_ws RX6 TX6 10, w ∈ gt := by
  intro w hw
  obtain ⟨k, hk, rfl⟩ := List.mem_map.mp hw
  have hk := List.mem_range.mp hk
  match k, hk with
  | 0, _ => exact gt_1 (i := 194) rfl rfl
  | 1, _ => exact gt_1 (i := 196) rfl rfl
  | 2, _ => exact gt_1 (i := 198) rfl rfl
  | 3, _ => exact gt_1 (i := 200) rfl rfl
  | 4, _ => exact gt_1 (i := 202) rfl rfl
  | 5, _ => exact gt_1 (i := 204) rfl rfl
  | 6, _ => exact gt_1 (i := 206) rfl rfl
  | 7, _ => exact gt_1 (i := 208) rfl rfl
  | 8, _ => exact gt_1 (i := 210) rfl rfl
  | 9, _ => exact gt_1 (i := 212) rfl rfl
  | k + 10, h => exact absurd h (by omega)
theorem uX7 : ∀ w ∈ u_ws RX7 TX7 27, w ∈ gt := by
  intro w hw
  obtain ⟨k, hk, rfl⟩ := List.mem_map.mp hw
  have hk := List.mem_range.mp hk
  match k, hk with
  | 0, _ => exact gt_3 (i := 128) rfl rfl
  | 1, _ => exact gt_3 (i := 130) rfl rfl
  | 2, _ => exact gt_3 (i := 132) rfl rfl
  | 3, _ => exact gt_3 (i := 134) rfl rfl
  | 4, _ => exact gt_3 (i := 136) rfl rfl
  | 5, _ => exact gt_3 (i := 138) rfl rfl
  | 6, _ => exact gt_3 (i := 140) rfl rfl
  | 7, _ => exact gt_3 (i := 142) rfl rfl
  | 8, _ => exact gt_3 (i := 144) rfl rfl
  | 9, _ => exact gt_3 (i := 146) rfl rfl
  | 10, _ => exact gt_3 (i := 148) rfl rfl
  | 11, _ => exact gt_3 (i := 150) rfl rfl
  | 12, _ => exact gt_3 (i := 152) rfl rfl
  | 13, _ => exact gt_3 (i := 154) rfl rfl
  | 14, _ => exact gt_3 (i := 156) rfl rfl
  | 15, _ => exact gt_3 (i := 158) rfl rfl
  | 16, _ => exact gt_3 (i := 160) rfl rfl
  | 17, _ => exact gt_3 (i := 162) rfl rfl
  | 18, _ => exact gt_3 (i := 164) rfl rfl
  | 19, _ => exact gt_3 (i := 166) rfl rfl
  | 20, _ => exact gt_3 (i := 168) rfl rfl
  | 21, _ => exact gt_3 (i := 170) rfl rfl
  | 22, _ => exact gt_3 (i := 172) rfl rfl
  | 23, _ => exact gt_3 (i := 174) rfl rfl
  | 24, _ => exact gt_3 (i := 176) rfl rfl
  | 25, _ => exact gt_3 (i := 178) rfl rfl
  | 26, _ => exact gt_3 (i := 180) rfl rfl
  | k + 27, h => exact absurd h (by omega)
theorem fl_RX0_9 : Cond.fieldLink RX0 9 "PageMender$Code" "polynomial" "[I" ∈ gt := gt_1 (i := 73) rfl rfl
theorem fl_RX0_15 : Cond.fieldLink RX0 15 "PageMender$Code" "highSteps" "[J" ∈ gt := gt_1 (i := 75) rfl rfl
theorem fl_RX0_19 : Cond.fieldLink RX0 19 "PageMender$Code" "lowSteps" "[J" ∈ gt := gt_1 (i := 76) rfl rfl
theorem fl_RX0_22 : Cond.fieldLink RX0 22 "PageMender$Code" "rest" "[I" ∈ gt := gt_1 (i := 77) rfl rfl
theorem fl_RX0_28 : Cond.fieldLink RX0 28 "PageMender$Code" "ones" "LPageMender$Row;" ∈ gt := gt_1 (i := 78) rfl rfl
theorem fl_RX0_32 : Cond.fieldLink RX0 32 "PageMender$Code" "field" "LPageMender$Field;" ∈ gt := gt_1 (i := 72) rfl rfl
theorem fl_RX0_36 : Cond.fieldLink RX0 36 "PageMender$Code" "t" "I" ∈ gt := gt_1 (i := 80) rfl rfl
theorem fl_RX0_40 : Cond.fieldLink RX0 40 "PageMender$Code" "d" "I" ∈ gt := gt_1 (i := 83) rfl rfl
theorem fl_RX0_46 : Cond.fieldLink RX0 46 "PageMender$Code" "\x72" "I" ∈ gt := gt_1 (i := 85) rfl rfl
theorem fl_RX0_49 : Cond.fieldLink RX0 49 "PageMender$Code" "n" "I" ∈ gt := gt_1 (i := 87) rfl rfl
theorem fl_RX0_65 : Cond.fieldLink RX0 65 "PageMender$Field" "m" "I" ∈ gt := gt_1 (i := 35) rfl rfl
theorem fl_RX0_91 : Cond.fieldLink RX0 91 "PageMender$Code" "high" "J" ∈ gt := gt_1 (i := 90) rfl rfl
theorem fl_RX0_95 : Cond.fieldLink RX0 95 "PageMender$Code" "low" "J" ∈ gt := gt_1 (i := 91) rfl rfl
theorem fl_RX0_114 : Cond.fieldLink RX0 114 "PageMender$Field" "order" "I" ∈ gt := gt_1 (i := 40) rfl rfl
theorem fl_RX0_120 : Cond.fieldLink RX0 120 "PageMender$Field" "powers" "[I" ∈ gt := gt_1 (i := 29) rfl rfl
theorem fl_RX2_9 : Cond.fieldLink RX2 9 "PageMender$Field" "powers" "[I" ∈ gt := gt_1 (i := 27) rfl rfl
theorem fl_RX2_15 : Cond.fieldLink RX2 15 "PageMender$Field" "logs" "[I" ∈ gt := gt_1 (i := 30) rfl rfl
theorem fl_RX2_18 : Cond.fieldLink RX2 18 "PageMender$Field" "coefficients" "[I" ∈ gt := gt_1 (i := 33) rfl rfl
theorem fl_RX2_21 : Cond.fieldLink RX2 21 "PageMender$Field" "m" "I" ∈ gt := gt_1 (i := 34) rfl rfl
theorem fl_RX2_25 : Cond.fieldLink RX2 25 "PageMender$Field" "order" "I" ∈ gt := gt_1 (i := 37) rfl rfl
theorem fl_RX2_28 : Cond.fieldLink RX2 28 "PageMender$Field" "POLYNOMIALS" "[I" ∈ gt := gt_2 (i := 7) rfl rfl
theorem fl_RX3_12 : Cond.fieldLink RX3 12 "PageMender$Mender" "word" "LPageMender$Row;" ∈ gt := gt_1 (i := 127) rfl rfl
theorem fl_RX3_18 : Cond.fieldLink RX3 18 "PageMender$Mender" "syndromes" "[I" ∈ gt := gt_1 (i := 129) rfl rfl
theorem fl_RX3_22 : Cond.fieldLink RX3 22 "PageMender$Mender" "locator" "[I" ∈ gt := gt_1 (i := 130) rfl rfl
theorem fl_RX3_25 : Cond.fieldLink RX3 25 "PageMender$Mender" "earlier" "[I" ∈ gt := gt_1 (i := 131) rfl rfl
theorem fl_RX3_28 : Cond.fieldLink RX3 28 "PageMender$Mender" "spare" "[I" ∈ gt := gt_1 (i := 132) rfl rfl
theorem fl_RX3_31 : Cond.fieldLink RX3 31 "PageMender$Mender" "logs" "[I" ∈ gt := gt_1 (i := 133) rfl rfl
theorem fl_RX3_34 : Cond.fieldLink RX3 34 "PageMender$Mender" "wrong" "[I" ∈ gt := gt_1 (i := 134) rfl rfl
theorem fl_RX3_37 : Cond.fieldLink RX3 37 "PageMender$Mender" "field" "LPageMender$Field;" ∈ gt := gt_1 (i := 125) rfl rfl
theorem fl_RX3_41 : Cond.fieldLink RX3 41 "PageMender$Mender" "code" "LPageMender$Code;" ∈ gt := gt_1 (i := 126) rfl rfl
theorem fl_RX3_45 : Cond.fieldLink RX3 45 "PageMender$Page" "marks" "LPageMender$Row;" ∈ gt := gt_1 (i := 169) rfl rfl
theorem fl_RX3_54 : Cond.fieldLink RX3 54 "PageMender$Code" "t" "I" ∈ gt := gt_1 (i := 81) rfl rfl
theorem fl_RX3_64 : Cond.fieldLink RX3 64 "PageMender$Page" "bits" "LPageMender$Row;" ∈ gt := gt_1 (i := 164) rfl rfl
theorem fl_RX3_71 : Cond.fieldLink RX3 71 "PageMender$Row" "longs" "[J" ∈ gt := gt_1 (i := 67) rfl rfl
theorem fl_RX3_143 : Cond.fieldLink RX3 143 "PageMender$Field" "logs" "[I" ∈ gt := gt_1 (i := 32) rfl rfl
theorem fl_RX3_144 : Cond.fieldLink RX3 144 "PageMender$Code" "n" "I" ∈ gt := gt_1 (i := 88) rfl rfl
theorem fl_RX3_147 : Cond.fieldLink RX3 147 "PageMender$Field" "order" "I" ∈ gt := gt_1 (i := 39) rfl rfl
theorem fl_RX3_158 : Cond.fieldLink RX3 158 "PageMender$Field" "powers" "[I" ∈ gt := gt_1 (i := 28) rfl rfl
theorem fl_RX4_12 : Cond.fieldLink RX4 12 "PageMender$Page" "bits" "LPageMender$Row;" ∈ gt := gt_1 (i := 163) rfl rfl
theorem fl_RX4_18 : Cond.fieldLink RX4 18 "PageMender$Page" "stuck" "LPageMender$Row;" ∈ gt := gt_1 (i := 166) rfl rfl
theorem fl_RX4_21 : Cond.fieldLink RX4 21 "PageMender$Page" "marks" "LPageMender$Row;" ∈ gt := gt_1 (i := 168) rfl rfl
theorem fl_RX4_31 : Cond.fieldLink RX4 31 "PageMender$Page" "wear" "I" ∈ gt := gt_1 (i := 171) rfl rfl
theorem fl_RX4_35 : Cond.fieldLink RX4 35 "PageMender$Row" "longs" "[J" ∈ gt := gt_1 (i := 66) rfl rfl
theorem fl_RX5_9 : Cond.fieldLink RX5 9 "PageMender$Row" "longs" "[J" ∈ gt := gt_1 (i := 65) rfl rfl
theorem fl_RX6_12 : Cond.fieldLink RX6 12 "PageMender" "field" "LPageMender$Field;" ∈ gt := gt_1 (i := 184) rfl rfl
theorem fl_RX6_21 : Cond.fieldLink RX6 21 "PageMender" "code" "LPageMender$Code;" ∈ gt := gt_1 (i := 185) rfl rfl
theorem fl_RX6_30 : Cond.fieldLink RX6 30 "PageMender" "mender" "LPageMender$Mender;" ∈ gt := gt_1 (i := 186) rfl rfl
theorem fl_RX6_36 : Cond.fieldLink RX6 36 "PageMender" "pages" "[LPageMender$Page;" ∈ gt := gt_1 (i := 187) rfl rfl
theorem fl_RX6_44 : Cond.fieldLink RX6 44 "PageMender" "buffer" "LPageMender$Row;" ∈ gt := gt_1 (i := 188) rfl rfl
theorem fl_RX6_48 : Cond.fieldLink RX6 48 "PageMender" "turnedBits" "LPageMender$Row;" ∈ gt := gt_1 (i := 189) rfl rfl
theorem fl_RX6_64 : Cond.fieldLink RX6 64 "PageMender$Code" "ones" "LPageMender$Row;" ∈ gt := gt_1 (i := 79) rfl rfl
theorem fl_RX6_74 : Cond.fieldLink RX6 74 "PageMender" "readsMended" "I" ∈ gt := gt_1 (i := 191) rfl rfl
theorem fl_RX6_78 : Cond.fieldLink RX6 78 "PageMender" "readsRight" "I" ∈ gt := gt_1 (i := 192) rfl rfl
theorem fl_RX6_81 : Cond.fieldLink RX6 81 "PageMender" "readsLost" "I" ∈ gt := gt_1 (i := 193) rfl rfl
theorem fl_RX6_84 : Cond.fieldLink RX6 84 "PageMender" "opened" "Z" ∈ gt := gt_1 (i := 190) rfl rfl
theorem fl_RX6_104 : Cond.fieldLink RX6 104 "PageMender$Field" "logs" "[I" ∈ gt := gt_1 (i := 31) rfl rfl
theorem fl_RX6_108 : Cond.fieldLink RX6 108 "PageMender$Field" "order" "I" ∈ gt := gt_1 (i := 38) rfl rfl
theorem fl_RX6_114 : Cond.fieldLink RX6 114 "PageMender$Code" "\x72" "I" ∈ gt := gt_1 (i := 86) rfl rfl
theorem fl_RX6_117 : Cond.fieldLink RX6 117 "PageMender$Code" "polynomial" "[I" ∈ gt := gt_1 (i := 74) rfl rfl
theorem fl_RX6_129 : Cond.fieldLink RX6 129 "PageMender$Code" "d" "I" ∈ gt := gt_1 (i := 84) rfl rfl
theorem fl_RX6_153 : Cond.fieldLink RX6 153 "PageMender$Page" "wear" "I" ∈ gt := gt_1 (i := 172) rfl rfl
theorem fl_RX6_165 : Cond.fieldLink RX6 165 "PageMender$Page" "stuck" "LPageMender$Row;" ∈ gt := gt_1 (i := 167) rfl rfl
theorem fl_RX6_171 : Cond.fieldLink RX6 171 "PageMender$Page" "marks" "LPageMender$Row;" ∈ gt := gt_1 (i := 170) rfl rfl
theorem fl_RX6_177 : Cond.fieldLink RX6 177 "PageMender$Page" "bits" "LPageMender$Row;" ∈ gt := gt_1 (i := 165) rfl rfl
theorem fl_RX6_184 : Cond.fieldLink RX6 184 "PageMender$Mender" "word" "LPageMender$Row;" ∈ gt := gt_1 (i := 128) rfl rfl
theorem fl_RX6_193 : Cond.fieldLink RX6 193 "PageMender$Code" "n" "I" ∈ gt := gt_1 (i := 89) rfl rfl
theorem fl_RX6_196 : Cond.fieldLink RX6 196 "PageMender$Code" "t" "I" ∈ gt := gt_1 (i := 82) rfl rfl
theorem fl_RX6_212 : Cond.fieldLink RX6 212 "PageMender$Field" "m" "I" ∈ gt := gt_1 (i := 36) rfl rfl
theorem fl_RX7_7 : Cond.fieldLink RX7 7 "PageMenderModel" "powers" "[I" ∈ gt := gt_3 (i := 108) rfl rfl
theorem fl_RX7_13 : Cond.fieldLink RX7 13 "PageMenderModel" "logs" "[I" ∈ gt := gt_3 (i := 109) rfl rfl
theorem fl_RX7_16 : Cond.fieldLink RX7 16 "PageMenderModel" "generator" "[I" ∈ gt := gt_3 (i := 110) rfl rfl
theorem fl_RX7_19 : Cond.fieldLink RX7 19 "PageMenderModel" "buffer" "[I" ∈ gt := gt_3 (i := 111) rfl rfl
theorem fl_RX7_23 : Cond.fieldLink RX7 23 "PageMenderModel" "bits" "[Z" ∈ gt := gt_3 (i := 112) rfl rfl
theorem fl_RX7_27 : Cond.fieldLink RX7 27 "PageMenderModel" "stuck" "[I" ∈ gt := gt_3 (i := 113) rfl rfl
theorem fl_RX7_30 : Cond.fieldLink RX7 30 "PageMenderModel" "marks" "[Z" ∈ gt := gt_3 (i := 114) rfl rfl
theorem fl_RX7_33 : Cond.fieldLink RX7 33 "PageMenderModel" "wear" "[I" ∈ gt := gt_3 (i := 115) rfl rfl
theorem fl_RX7_36 : Cond.fieldLink RX7 36 "PageMenderModel" "turned" "[I" ∈ gt := gt_3 (i := 116) rfl rfl
theorem fl_RX7_39 : Cond.fieldLink RX7 39 "PageMenderModel" "made" "[I" ∈ gt := gt_3 (i := 121) rfl rfl
theorem fl_RX7_42 : Cond.fieldLink RX7 42 "PageMenderModel" "spare" "[I" ∈ gt := gt_3 (i := 122) rfl rfl
theorem fl_RX7_45 : Cond.fieldLink RX7 45 "PageMenderModel" "word" "[Z" ∈ gt := gt_3 (i := 123) rfl rfl
theorem fl_RX7_48 : Cond.fieldLink RX7 48 "PageMenderModel" "left" "[I" ∈ gt := gt_3 (i := 124) rfl rfl
theorem fl_RX7_51 : Cond.fieldLink RX7 51 "PageMenderModel" "syndromes" "[I" ∈ gt := gt_3 (i := 125) rfl rfl
theorem fl_RX7_54 : Cond.fieldLink RX7 54 "PageMenderModel" "lines" "[I" ∈ gt := gt_3 (i := 126) rfl rfl
theorem fl_RX7_57 : Cond.fieldLink RX7 57 "PageMenderModel" "locator" "[I" ∈ gt := gt_3 (i := 127) rfl rfl
theorem fl_RX7_64 : Cond.fieldLink RX7 64 "PageMenderModel" "all" "I" ∈ gt := gt_3 (i := 107) rfl rfl
theorem fl_RX7_86 : Cond.fieldLink RX7 86 "PageMenderModel" "m" "I" ∈ gt := gt_3 (i := 102) rfl rfl
theorem fl_RX7_100 : Cond.fieldLink RX7 100 "PageMenderModel" "isOpen" "Z" ∈ gt := gt_3 (i := 101) rfl rfl
theorem fl_RX7_104 : Cond.fieldLink RX7 104 "PageMenderModel" "t" "I" ∈ gt := gt_3 (i := 103) rfl rfl
theorem fl_RX7_107 : Cond.fieldLink RX7 107 "PageMenderModel" "d" "I" ∈ gt := gt_3 (i := 104) rfl rfl
theorem fl_RX7_110 : Cond.fieldLink RX7 110 "PageMenderModel" "\x72" "I" ∈ gt := gt_3 (i := 105) rfl rfl
theorem fl_RX7_113 : Cond.fieldLink RX7 113 "PageMenderModel" "n" "I" ∈ gt := gt_3 (i := 106) rfl rfl
theorem fl_RX7_116 : Cond.fieldLink RX7 116 "PageMenderModel" "turns" "I" ∈ gt := gt_3 (i := 117) rfl rfl
theorem fl_RX7_119 : Cond.fieldLink RX7 119 "PageMenderModel" "mended" "I" ∈ gt := gt_3 (i := 118) rfl rfl
theorem fl_RX7_122 : Cond.fieldLink RX7 122 "PageMenderModel" "right" "I" ∈ gt := gt_3 (i := 119) rfl rfl
theorem fl_RX7_125 : Cond.fieldLink RX7 125 "PageMenderModel" "lost" "I" ∈ gt := gt_3 (i := 120) rfl rfl
theorem ml_RL_9 : Cond.methodLink RL 9 yX6_init ∈ gt := gt_1 (i := 15) rfl rfl
theorem ml_RL_12 : Cond.methodLink RL 12 yX7_init ∈ gt := gt_3 (i := 96) rfl rfl
theorem ml_RL_13 : Cond.methodLink RL 13 yX6_open ∈ gt := gt_1 (i := 215) rfl rfl
theorem ml_RL_17 : Cond.methodLink RL 17 yX7_open ∈ gt := gt_3 (i := 184) rfl rfl
theorem ml_RL_18 : Cond.methodLink RL 18 yX6_times ∈ gt := gt_2 (i := 79) rfl rfl
theorem ml_RL_22 : Cond.methodLink RL 22 yX7_times ∈ gt := gt_3 (i := 221) rfl rfl
theorem ml_RL_23 : Cond.methodLink RL 23 yX6_inverse ∈ gt := gt_2 (i := 88) rfl rfl
theorem ml_RL_27 : Cond.methodLink RL 27 yX7_inverse ∈ gt := gt_3 (i := 229) rfl rfl
theorem ml_RL_28 : Cond.methodLink RL 28 yX6_power ∈ gt := gt_2 (i := 96) rfl rfl
theorem ml_RL_31 : Cond.methodLink RL 31 yX7_power ∈ gt := gt_3 (i := 237) rfl rfl
theorem ml_RL_32 : Cond.methodLink RL 32 yX6_log ∈ gt := gt_2 (i := 106) rfl rfl
theorem ml_RL_35 : Cond.methodLink RL 35 yX7_log ∈ gt := gt_4 (i := 3) rfl rfl
theorem ml_RL_36 : Cond.methodLink RL 36 yX6_minimal ∈ gt := gt_2 (i := 110) rfl rfl
theorem ml_RL_39 : Cond.methodLink RL 39 yX7_minimal ∈ gt := gt_4 (i := 7) rfl rfl
theorem ml_RL_40 : Cond.methodLink RL 40 yX6_generator ∈ gt := gt_2 (i := 115) rfl rfl
theorem ml_RL_43 : Cond.methodLink RL 43 yX7_generator ∈ gt := gt_4 (i := 11) rfl rfl
theorem ml_RL_44 : Cond.methodLink RL 44 yX6_put ∈ gt := gt_2 (i := 119) rfl rfl
theorem ml_RL_47 : Cond.methodLink RL 47 yX7_put ∈ gt := gt_4 (i := 15) rfl rfl
theorem ml_RL_50 : Cond.methodLink RL 50 yX6_fill ∈ gt := gt_2 (i := 136) rfl rfl
theorem ml_RL_54 : Cond.methodLink RL 54 yX7_fill ∈ gt := gt_4 (i := 19) rfl rfl
theorem ml_RL_55 : Cond.methodLink RL 55 yX6_get ∈ gt := gt_2 (i := 141) rfl rfl
theorem ml_RL_58 : Cond.methodLink RL 58 yX7_get ∈ gt := gt_4 (i := 24) rfl rfl
theorem ml_RL_59 : Cond.methodLink RL 59 yX6_tail ∈ gt := gt_2 (i := 145) rfl rfl
theorem ml_RL_62 : Cond.methodLink RL 62 yX7_tail ∈ gt := gt_4 (i := 28) rfl rfl
theorem ml_RL_63 : Cond.methodLink RL 63 yX6_write ∈ gt := gt_2 (i := 167) rfl rfl
theorem ml_RL_66 : Cond.methodLink RL 66 yX7_write ∈ gt := gt_4 (i := 36) rfl rfl
theorem ml_RL_67 : Cond.methodLink RL 67 yX6_erase ∈ gt := gt_2 (i := 189) rfl rfl
theorem ml_RL_70 : Cond.methodLink RL 70 yX7_erase ∈ gt := gt_4 (i := 51) rfl rfl
theorem ml_RL_71 : Cond.methodLink RL 71 yX6_flip ∈ gt := gt_2 (i := 198) rfl rfl
theorem ml_RL_74 : Cond.methodLink RL 74 yX7_flip ∈ gt := gt_4 (i := 59) rfl rfl
theorem ml_RL_75 : Cond.methodLink RL 75 yX6_stick ∈ gt := gt_2 (i := 212) rfl rfl
theorem ml_RL_78 : Cond.methodLink RL 78 yX7_stick ∈ gt := gt_4 (i := 67) rfl rfl
theorem ml_RL_79 : Cond.methodLink RL 79 yX6_mark ∈ gt := gt_2 (i := 224) rfl rfl
theorem ml_RL_83 : Cond.methodLink RL 83 yX7_mark ∈ gt := gt_4 (i := 75) rfl rfl
theorem ml_RL_84 : Cond.methodLink RL 84 yX6_bit ∈ gt := gt_2 (i := 229) rfl rfl
theorem ml_RL_87 : Cond.methodLink RL 87 yX7_bit ∈ gt := gt_4 (i := 83) rfl rfl
theorem ml_RL_88 : Cond.methodLink RL 88 yX6_read ∈ gt := gt_2 (i := 233) rfl rfl
theorem ml_RL_91 : Cond.methodLink RL 91 yX7_read ∈ gt := gt_4 (i := 87) rfl rfl
theorem ml_RL_92 : Cond.methodLink RL 92 yX6_turned ∈ gt := gt_3 (i := 63) rfl rfl
theorem ml_RL_95 : Cond.methodLink RL 95 yX7_turned ∈ gt := gt_4 (i := 107) rfl rfl
theorem ml_RL_96 : Cond.methodLink RL 96 yX6_syndrome ∈ gt := gt_3 (i := 67) rfl rfl
theorem ml_RL_99 : Cond.methodLink RL 99 yX7_syndrome ∈ gt := gt_4 (i := 111) rfl rfl
theorem ml_RL_100 : Cond.methodLink RL 100 yX6_copy ∈ gt := gt_3 (i := 73) rfl rfl
theorem ml_RL_103 : Cond.methodLink RL 103 yX7_copy ∈ gt := gt_4 (i := 115) rfl rfl
theorem ml_RL_104 : Cond.methodLink RL 104 yX6_refresh ∈ gt := gt_3 (i := 81) rfl rfl
theorem ml_RL_107 : Cond.methodLink RL 107 yX7_refresh ∈ gt := gt_4 (i := 119) rfl rfl
theorem ml_RL_108 : Cond.methodLink RL 108 yX6_told ∈ gt := gt_3 (i := 85) rfl rfl
theorem ml_RL_111 : Cond.methodLink RL 111 yX7_told ∈ gt := gt_4 (i := 123) rfl rfl
theorem ml_RL_112 : Cond.methodLink RL 112 yX6_about ∈ gt := gt_3 (i := 90) rfl rfl
theorem ml_RL_115 : Cond.methodLink RL 115 yX7_about ∈ gt := gt_4 (i := 131) rfl rfl
theorem ml_RX0_3 : Cond.methodLink RX0 3 objectInit ∈ gt := gt_1 (i := 58) rfl rfl
theorem ml_RX0_43 : Cond.methodLink RX0 43 yX0_makePolynomial ∈ gt := gt_2 (i := 13) rfl rfl
theorem ml_RX0_52 : Cond.methodLink RX0 52 yX5_becomeFirstOnes ∈ gt := gt_2 (i := 42) rfl rfl
theorem ml_RX0_56 : Cond.methodLink RX0 56 yX0_makeSteps ∈ gt := gt_2 (i := 58) rfl rfl
theorem ml_RX0_59 : Cond.methodLink RX0 59 yJ7_fill_53178 ∈ gt := gt_2 (i := 17) rfl rfl
theorem ml_RX0_70 : Cond.methodLink RX0 70 yX1_isNew ∈ gt := gt_2 (i := 20) rfl rfl
theorem ml_RX0_76 : Cond.methodLink RX0 76 yX2_minimalPolynomial ∈ gt := gt_2 (i := 21) rfl rfl
theorem ml_RX0_80 : Cond.methodLink RX0 80 yX1_size ∈ gt := gt_2 (i := 37) rfl rfl
theorem ml_RX0_84 : Cond.methodLink RX0 84 yX0_multiplyBy ∈ gt := gt_2 (i := 38) rfl rfl
theorem ml_RX0_88 : Cond.methodLink RX0 88 yX0_loadPolynomial ∈ gt := gt_2 (i := 62) rfl rfl
theorem ml_RX0_98 : Cond.methodLink RX0 98 yX5_byteAt ∈ gt := gt_2 (i := 157) rfl rfl
theorem ml_RX0_101 : Cond.methodLink RX0 101 yX0_takeData ∈ gt := gt_2 (i := 153) rfl rfl
theorem ml_RX0_105 : Cond.methodLink RX0 105 yX0_registerAt ∈ gt := gt_2 (i := 158) rfl rfl
theorem ml_RX0_108 : Cond.methodLink RX0 108 yX5_set ∈ gt := gt_2 (i := 162) rfl rfl
theorem ml_RX0_111 : Cond.methodLink RX0 111 yX5_at ∈ gt := gt_3 (i := 15) rfl rfl
theorem ml_RX0_117 : Cond.methodLink RX0 117 yX1_reduced ∈ gt := gt_3 (i := 24) rfl rfl
theorem ml_RX1_7 : Cond.methodLink RX1 7 yJ9_floorMod_7cf53 ∈ gt := gt_1 (i := 231) rfl rfl
theorem ml_RX1_13 : Cond.methodLink RX1 13 yX1_reduced ∈ gt := gt_1 (i := 228) rfl rfl
theorem ml_RX1_18 : Cond.methodLink RX1 18 yX1_doubled ∈ gt := gt_1 (i := 234) rfl rfl
theorem ml_RX1_21 : Cond.methodLink RX1 21 yJ9_min_7cf53 ∈ gt := gt_1 (i := 237) rfl rfl
theorem ml_RX1_24 : Cond.methodLink RX1 24 yX1_least ∈ gt := gt_1 (i := 225) rfl rfl
theorem ml_RX1_27 : Cond.methodLink RX1 27 yX1_isNew ∈ gt := gt_1 (i := 222) rfl rfl
theorem ml_RX1_31 : Cond.methodLink RX1 31 yX1_size ∈ gt := gt_2 (i := 0) rfl rfl
theorem ml_RX2_3 : Cond.methodLink RX2 3 objectInit ∈ gt := gt_1 (i := 26) rfl rfl
theorem ml_RX2_31 : Cond.methodLink RX2 31 yX1_reduced ∈ gt := gt_2 (i := 27) rfl rfl
theorem ml_RX2_37 : Cond.methodLink RX2 37 yX1_size ∈ gt := gt_2 (i := 25) rfl rfl
theorem ml_RX2_40 : Cond.methodLink RX2 40 yJ7_fill_53178 ∈ gt := gt_2 (i := 26) rfl rfl
theorem ml_RX2_46 : Cond.methodLink RX2 46 yX2_multiplyByRoot ∈ gt := gt_2 (i := 28) rfl rfl
theorem ml_RX2_50 : Cond.methodLink RX2 50 yX1_doubled ∈ gt := gt_2 (i := 36) rfl rfl
theorem ml_RX2_53 : Cond.methodLink RX2 53 yX2_product ∈ gt := gt_2 (i := 32) rfl rfl
theorem ml_RX3_3 : Cond.methodLink RX3 3 objectInit ∈ gt := gt_1 (i := 122) rfl rfl
theorem ml_RX3_50 : Cond.methodLink RX3 50 yX5_ones ∈ gt := gt_3 (i := 1) rfl rfl
theorem ml_RX3_60 : Cond.methodLink RX3 60 yX3_isMended ∈ gt := gt_3 (i := 2) rfl rfl
theorem ml_RX3_67 : Cond.methodLink RX3 67 yX5_apart ∈ gt := gt_3 (i := 57) rfl rfl
theorem ml_RX3_77 : Cond.methodLink RX3 77 yX3_becomesRight ∈ gt := gt_3 (i := 7) rfl rfl
theorem ml_RX3_81 : Cond.methodLink RX3 81 yX3_apartBesidesMarks ∈ gt := gt_3 (i := 52) rfl rfl
theorem ml_RX3_85 : Cond.methodLink RX3 85 yJ13_bitCount_95d88 ∈ gt := gt_3 (i := 56) rfl rfl
theorem ml_RX3_91 : Cond.methodLink RX3 91 yX0_divide ∈ gt := gt_3 (i := 11) rfl rfl
theorem ml_RX3_95 : Cond.methodLink RX3 95 yX3_takeSyndromes ∈ gt := gt_3 (i := 16) rfl rfl
theorem ml_RX3_98 : Cond.methodLink RX3 98 yX3_locate ∈ gt := gt_3 (i := 26) rfl rfl
theorem ml_RX3_101 : Cond.methodLink RX3 101 yX3_findWrong ∈ gt := gt_3 (i := 41) rfl rfl
theorem ml_RX3_105 : Cond.methodLink RX3 105 yX5_at ∈ gt := gt_3 (i := 50) rfl rfl
theorem ml_RX3_109 : Cond.methodLink RX3 109 yX5_set ∈ gt := gt_3 (i := 51) rfl rfl
theorem ml_RX3_113 : Cond.methodLink RX3 113 yX0_restAt ∈ gt := gt_3 (i := 20) rfl rfl
theorem ml_RX3_116 : Cond.methodLink RX3 116 yX2_product ∈ gt := gt_3 (i := 25) rfl rfl
theorem ml_RX3_122 : Cond.methodLink RX3 122 yJ7_fill_53178 ∈ gt := gt_3 (i := 30) rfl rfl
theorem ml_RX3_128 : Cond.methodLink RX3 128 yX3_missAt ∈ gt := gt_3 (i := 31) rfl rfl
theorem ml_RX3_131 : Cond.methodLink RX3 131 yX2_reciprocal ∈ gt := gt_3 (i := 35) rfl rfl
theorem ml_RX3_134 : Cond.methodLink RX3 134 arraycopyName ∈ gt := gt_3 (i := 36) rfl rfl
theorem ml_RX3_140 : Cond.methodLink RX3 140 yX3_addEarlier ∈ gt := gt_3 (i := 37) rfl rfl
theorem ml_RX3_150 : Cond.methodLink RX3 150 yX1_reduced ∈ gt := gt_3 (i := 45) rfl rfl
theorem ml_RX3_155 : Cond.methodLink RX3 155 yX3_locatorIsZero ∈ gt := gt_3 (i := 46) rfl rfl
theorem ml_RX4_3 : Cond.methodLink RX4 3 objectInit ∈ gt := gt_1 (i := 160) rfl rfl
theorem ml_RX4_24 : Cond.methodLink RX4 24 yX5_clear ∈ gt := gt_2 (i := 70) rfl rfl
theorem ml_RX4_27 : Cond.methodLink RX4 27 yX5_become ∈ gt := gt_2 (i := 71) rfl rfl
theorem ml_RX4_41 : Cond.methodLink RX4 41 yX5_apart ∈ gt := gt_2 (i := 179) rfl rfl
theorem ml_RX4_45 : Cond.methodLink RX4 45 yX5_at ∈ gt := gt_2 (i := 210) rfl rfl
theorem ml_RX4_49 : Cond.methodLink RX4 49 yX5_set ∈ gt := gt_2 (i := 211) rfl rfl
theorem ml_RX5_3 : Cond.methodLink RX5 3 objectInit ∈ gt := gt_1 (i := 64) rfl rfl
theorem ml_RX5_19 : Cond.methodLink RX5 19 yJ13_bitCount_95d88 ∈ gt := gt_2 (i := 183) rfl rfl
theorem ml_RX5_25 : Cond.methodLink RX5 25 yJ7_fill_d0a16 ∈ gt := gt_2 (i := 50) rfl rfl
theorem ml_RX5_31 : Cond.methodLink RX5 31 arraycopyName ∈ gt := gt_2 (i := 75) rfl rfl
theorem ml_RX5_37 : Cond.methodLink RX5 37 yX5_clear ∈ gt := gt_2 (i := 46) rfl rfl
theorem ml_RX5_40 : Cond.methodLink RX5 40 yX5_set ∈ gt := gt_2 (i := 53) rfl rfl
theorem ml_RX6_3 : Cond.methodLink RX6 3 objectInit ∈ gt := gt_1 (i := 18) rfl rfl
theorem ml_RX6_18 : Cond.methodLink RX6 18 yX0_init ∈ gt := gt_1 (i := 55) rfl rfl
theorem ml_RX6_27 : Cond.methodLink RX6 27 yX3_init ∈ gt := gt_1 (i := 119) rfl rfl
theorem ml_RX6_51 : Cond.methodLink RX6 51 yX1_tailLength ∈ gt := gt_1 (i := 219) rfl rfl
theorem ml_RX6_57 : Cond.methodLink RX6 57 yX2_become ∈ gt := gt_2 (i := 3) rfl rfl
theorem ml_RX6_61 : Cond.methodLink RX6 61 yX0_become ∈ gt := gt_2 (i := 9) rfl rfl
theorem ml_RX6_67 : Cond.methodLink RX6 67 yX4_renew ∈ gt := gt_2 (i := 66) rfl rfl
theorem ml_RX6_71 : Cond.methodLink RX6 71 yX5_clear ∈ gt := gt_2 (i := 78) rfl rfl
theorem ml_RX6_88 : Cond.methodLink RX6 88 yX2_has ∈ gt := gt_2 (i := 83) rfl rfl
theorem ml_RX6_92 : Cond.methodLink RX6 92 yX2_product ∈ gt := gt_2 (i := 87) rfl rfl
theorem ml_RX6_95 : Cond.methodLink RX6 95 yX2_reciprocal ∈ gt := gt_2 (i := 92) rfl rfl
theorem ml_RX6_101 : Cond.methodLink RX6 101 yX2_powerOfA ∈ gt := gt_2 (i := 102) rfl rfl
theorem ml_RX6_111 : Cond.methodLink RX6 111 yX2_minimalPolynomial ∈ gt := gt_2 (i := 114) rfl rfl
theorem ml_RX6_120 : Cond.methodLink RX6 120 yX6_hasByte ∈ gt := gt_2 (i := 123) rfl rfl
theorem ml_RX6_123 : Cond.methodLink RX6 123 yX5_byteAt ∈ gt := gt_2 (i := 127) rfl rfl
theorem ml_RX6_126 : Cond.methodLink RX6 126 yX5_setByte ∈ gt := gt_2 (i := 131) rfl rfl
theorem ml_RX6_132 : Cond.methodLink RX6 132 yJ9_min_7cf53 ∈ gt := gt_2 (i := 140) rfl rfl
theorem ml_RX6_137 : Cond.methodLink RX6 137 yX0_complete ∈ gt := gt_2 (i := 149) rfl rfl
theorem ml_RX6_140 : Cond.methodLink RX6 140 yX5_at ∈ gt := gt_2 (i := 163) rfl rfl
theorem ml_RX6_143 : Cond.methodLink RX6 143 yX6_hasPage ∈ gt := gt_2 (i := 171) rfl rfl
theorem ml_RX6_146 : Cond.methodLink RX6 146 yX4_program ∈ gt := gt_2 (i := 175) rfl rfl
theorem ml_RX6_150 : Cond.methodLink RX6 150 yX4_wipe ∈ gt := gt_2 (i := 193) rfl rfl
theorem ml_RX6_156 : Cond.methodLink RX6 156 yX6_hasBit ∈ gt := gt_2 (i := 202) rfl rfl
theorem ml_RX6_159 : Cond.methodLink RX6 159 yX4_turn ∈ gt := gt_2 (i := 206) rfl rfl
theorem ml_RX6_162 : Cond.methodLink RX6 162 yX4_hold ∈ gt := gt_2 (i := 216) rfl rfl
theorem ml_RX6_168 : Cond.methodLink RX6 168 yX5_ones ∈ gt := gt_2 (i := 220) rfl rfl
theorem ml_RX6_174 : Cond.methodLink RX6 174 yX5_set ∈ gt := gt_2 (i := 228) rfl rfl
theorem ml_RX6_180 : Cond.methodLink RX6 180 yX3_mend ∈ gt := gt_2 (i := 237) rfl rfl
theorem ml_RX6_187 : Cond.methodLink RX6 187 yX5_become ∈ gt := gt_3 (i := 58) rfl rfl
theorem ml_RX6_189 : Cond.methodLink RX6 189 yX5_becomeDifference ∈ gt := gt_3 (i := 59) rfl rfl
theorem ml_RX6_199 : Cond.methodLink RX6 199 yX0_divide ∈ gt := gt_3 (i := 71) rfl rfl
theorem ml_RX6_203 : Cond.methodLink RX6 203 yX0_restAt ∈ gt := gt_3 (i := 72) rfl rfl
theorem ml_RX6_206 : Cond.methodLink RX6 206 yX6_rewrite ∈ gt := gt_3 (i := 77) rfl rfl
theorem ml_RX6_209 : Cond.methodLink RX6 209 yX5_apart ∈ gt := gt_3 (i := 89) rfl rfl
theorem ml_RX7_1 : Cond.methodLink RX7 1 objectInit ∈ gt := gt_3 (i := 99) rfl rfl
theorem ml_RX7_60 : Cond.methodLink RX7 60 yX7_polynomial ∈ gt := gt_3 (i := 198) rfl rfl
theorem ml_RX7_68 : Cond.methodLink RX7 68 yX7_within ∈ gt := gt_3 (i := 188) rfl rfl
theorem ml_RX7_72 : Cond.methodLink RX7 72 yX7_by ∈ gt := gt_3 (i := 217) rfl rfl
theorem ml_RX7_76 : Cond.methodLink RX7 76 yX7_exponent ∈ gt := gt_3 (i := 209) rfl rfl
theorem ml_RX7_80 : Cond.methodLink RX7 80 yX7_generatorAt ∈ gt := gt_3 (i := 205) rfl rfl
theorem ml_RX7_83 : Cond.methodLink RX7 83 yX7_minimalOf ∈ gt := gt_3 (i := 213) rfl rfl
theorem ml_RX7_89 : Cond.methodLink RX7 89 yX7_product ∈ gt := gt_3 (i := 195) rfl rfl
theorem ml_RX7_93 : Cond.methodLink RX7 93 yX7_makeField ∈ gt := gt_3 (i := 191) rfl rfl
theorem ml_RX7_97 : Cond.methodLink RX7 97 yX7_makeGenerator ∈ gt := gt_3 (i := 201) rfl rfl
theorem ml_RX7_128 : Cond.methodLink RX7 128 yX7_isNumber ∈ gt := gt_3 (i := 225) rfl rfl
theorem ml_RX7_132 : Cond.methodLink RX7 132 yX7_over ∈ gt := gt_3 (i := 233) rfl rfl
theorem ml_RX7_139 : Cond.methodLink RX7 139 yX7_complete ∈ gt := gt_4 (i := 32) rfl rfl
theorem ml_RX7_142 : Cond.methodLink RX7 142 yX7_isPage ∈ gt := gt_4 (i := 40) rfl rfl
theorem ml_RX7_145 : Cond.methodLink RX7 145 yX7_set ∈ gt := gt_4 (i := 47) rfl rfl
theorem ml_RX7_149 : Cond.methodLink RX7 149 yX7_program ∈ gt := gt_4 (i := 43) rfl rfl
theorem ml_RX7_152 : Cond.methodLink RX7 152 yX7_wipe ∈ gt := gt_4 (i := 55) rfl rfl
theorem ml_RX7_155 : Cond.methodLink RX7 155 yX7_isBit ∈ gt := gt_4 (i := 63) rfl rfl
theorem ml_RX7_159 : Cond.methodLink RX7 159 yX7_countStuck ∈ gt := gt_4 (i := 71) rfl rfl
theorem ml_RX7_162 : Cond.methodLink RX7 162 yX7_countMarks ∈ gt := gt_4 (i := 79) rfl rfl
theorem ml_RX7_165 : Cond.methodLink RX7 165 yX7_isRight ∈ gt := gt_4 (i := 99) rfl rfl
theorem ml_RX7_169 : Cond.methodLink RX7 169 yX7_solves ∈ gt := gt_4 (i := 103) rfl rfl
theorem ml_RX7_172 : Cond.methodLink RX7 172 yX7_isMended ∈ gt := gt_4 (i := 95) rfl rfl
theorem ml_RX7_175 : Cond.methodLink RX7 175 yX7_mend ∈ gt := gt_4 (i := 91) rfl rfl
theorem ml_RX7_178 : Cond.methodLink RX7 178 yX7_countZeros ∈ gt := gt_4 (i := 127) rfl rfl
theorem cl_RL_7 : Cond.classLink RL 7 RX6 ∈ gt := gt_1 (i := 13) rfl rfl
theorem cl_RL_10 : Cond.classLink RL 10 RX7 ∈ gt := gt_3 (i := 94) rfl rfl
theorem cl_RX0_25 : Cond.classLink RX0 25 RX5 ∈ gt := gt_1 (i := 59) rfl rfl
theorem cl_RX3_9 : Cond.classLink RX3 9 RX5 ∈ gt := gt_1 (i := 123) rfl rfl
theorem cl_RX4_9 : Cond.classLink RX4 9 RX5 ∈ gt := gt_1 (i := 161) rfl rfl
theorem cl_RX6_9 : Cond.classLink RX6 9 RX2 ∈ gt := gt_1 (i := 21) rfl rfl
theorem cl_RX6_16 : Cond.classLink RX6 16 RX0 ∈ gt := gt_1 (i := 53) rfl rfl
theorem cl_RX6_25 : Cond.classLink RX6 25 RX3 ∈ gt := gt_1 (i := 117) rfl rfl
theorem cl_RX6_34 : Cond.classLink RX6 34 RX4 ∈ gt := gt_1 (i := 154) rfl rfl
theorem cl_RX6_41 : Cond.classLink RX6 41 RX5 ∈ gt := gt_1 (i := 182) rfl rfl
theorem kl_RJ13_314 : Cond.constantLong RJ13 314 (6148914691236517205) ∈ gt := gt_2 (i := 186) rfl rfl
theorem kl_RJ13_316 : Cond.constantLong RJ13 316 (3689348814741910323) ∈ gt := gt_2 (i := 187) rfl rfl
theorem kl_RJ13_318 : Cond.constantLong RJ13 318 (1085102592571150095) ∈ gt := gt_2 (i := 188) rfl rfl
theorem kl_RL_48 : Cond.constantLong RL 48 (4294967295) ∈ gt := gt_4 (i := 135) rfl rfl
theorem kl_RX3_75 : Cond.constantLong RX3 75 (-1) ∈ gt := gt_3 (i := 6) rfl rfl
theorem kl_RX4_39 : Cond.constantLong RX4 39 (-1) ∈ gt := gt_2 (i := 197) rfl rfl
theorem kl_RX5_15 : Cond.constantLong RX5 15 (-1) ∈ gt := gt_2 (i := 57) rfl rfl
theorem kl_RX5_17 : Cond.constantLong RX5 17 (255) ∈ gt := gt_2 (i := 135) rfl rfl
theorem kl_RX7_137 : Cond.constantLong RX7 137 (255) ∈ gt := gt_4 (i := 23) rfl rfl
theorem ki_RX6_99 : Cond.constant RX6 99 (-100000) ∈ gt := gt_2 (i := 100) rfl rfl
theorem ki_RX6_100 : Cond.constant RX6 100 (100000) ∈ gt := gt_2 (i := 101) rfl rfl
theorem ki_RX7_22 : Cond.constant RX7 22 (35200) ∈ gt := gt_3 (i := 100) rfl rfl
theorem ki_RX7_135 : Cond.constant RX7 135 (-100000) ∈ gt := gt_4 (i := 1) rfl rfl
theorem ki_RX7_136 : Cond.constant RX7 136 (100000) ∈ gt := gt_4 (i := 2) rfl rfl
theorem oi_in : Cond.instanceMethod objectInit ∈ gt := gt_1 (i := 19) rfl rfl
theorem oi_co : Cond.code objectInit ⟨#[0xb1]⟩ 1 none ∈ gt := gt_1 (i := 20) rfl rfl
theorem ac_nat : Cond.native arraycopyName ∈ gt := gt_2 (i := 77) rfl rfl
theorem ac_sta : Cond.static arraycopyName ∈ gt := gt_2 (i := 76) rfl rfl
theorem ac_ini : Cond.initialized "java/lang/System" ∈ gt := gt_1 (i := 11) rfl rfl
theorem aw_i : Cond.arrayClass .int ∈ gt := gt_1 (i := 52) rfl rfl
theorem aw_l : Cond.arrayClass .long ∈ gt := gt_1 (i := 71) rfl rfl
theorem aw_z : Cond.arrayClass .boolean ∈ gt := gt_3 (i := 183) rfl rfl
theorem ins_0 : Cond.instantiable RX0 12 ∈ gt := gt_1 (i := 54) rfl rfl
theorem ini_0 : Cond.initialized RX0 ∈ gt := gt_1 (i := 3) rfl rfl
theorem ins_2 : Cond.instantiable RX2 5 ∈ gt := gt_1 (i := 22) rfl rfl
theorem ini_2 : Cond.initialized RX2 ∈ gt := gt_1 (i := 2) rfl rfl
theorem ins_3 : Cond.instantiable RX3 9 ∈ gt := gt_1 (i := 118) rfl rfl
theorem ini_3 : Cond.initialized RX3 ∈ gt := gt_1 (i := 5) rfl rfl
theorem ins_4 : Cond.instantiable RX4 4 ∈ gt := gt_1 (i := 156) rfl rfl
theorem ini_4 : Cond.initialized RX4 ∈ gt := gt_1 (i := 6) rfl rfl
theorem ins_5 : Cond.instantiable RX5 1 ∈ gt := gt_1 (i := 60) rfl rfl
theorem ini_5 : Cond.initialized RX5 ∈ gt := gt_1 (i := 4) rfl rfl
theorem ins_6 : Cond.instantiable RX6 10 ∈ gt := gt_1 (i := 14) rfl rfl
theorem ini_6 : Cond.initialized RX6 ∈ gt := gt_1 (i := 1) rfl rfl
theorem ins_7 : Cond.instantiable RX7 27 ∈ gt := gt_3 (i := 95) rfl rfl
theorem ini_7 : Cond.initialized RX7 ∈ gt := gt_1 (i := 7) rfl rfl
abbrev jJ13_bitCount_95d88 : Jt := (yJ13_bitCount_95d88, cJ13_bitCount_95d88, 2, (some .int))
theorem mk_J13_bitCount_95d88 : Mk jJ13_bitCount_95d88 1 := ⟨gt_2 (i := 185) rfl rfl, gt_1 (i := 12) rfl rfl, by decide +kernel, by decide +kernel, by decide +kernel, by decide +kernel⟩
theorem st_J13_bitCount_95d88 : Cond.static yJ13_bitCount_95d88 ∈ gt := gt_2 (i := 184) rfl rfl
abbrev jJ7_fill_53178 : Jt := (yJ7_fill_53178, cJ7_fill_53178, 4, none)
theorem mk_J7_fill_53178 : Mk jJ7_fill_53178 2 := ⟨gt_2 (i := 19) rfl rfl, gt_1 (i := 10) rfl rfl, by decide +kernel, by decide +kernel, by decide +kernel, by decide +kernel⟩
theorem st_J7_fill_53178 : Cond.static yJ7_fill_53178 ∈ gt := gt_2 (i := 18) rfl rfl
abbrev jJ7_fill_d0a16 : Jt := (yJ7_fill_d0a16, cJ7_fill_d0a16, 5, none)
theorem mk_J7_fill_d0a16 : Mk jJ7_fill_d0a16 2 := ⟨gt_2 (i := 52) rfl rfl, gt_1 (i := 10) rfl rfl, by decide +kernel, by decide +kernel, by decide +kernel, by decide +kernel⟩
theorem st_J7_fill_d0a16 : Cond.static yJ7_fill_d0a16 ∈ gt := gt_2 (i := 51) rfl rfl
abbrev jJ9_floorMod_7cf53 : Jt := (yJ9_floorMod_7cf53, cJ9_floorMod_7cf53, 3, (some .int))
theorem mk_J9_floorMod_7cf53 : Mk jJ9_floorMod_7cf53 2 := ⟨gt_1 (i := 233) rfl rfl, gt_1 (i := 9) rfl rfl, by decide +kernel, by decide +kernel, by decide +kernel, by decide +kernel⟩
theorem st_J9_floorMod_7cf53 : Cond.static yJ9_floorMod_7cf53 ∈ gt := gt_1 (i := 232) rfl rfl
abbrev jJ9_min_7cf53 : Jt := (yJ9_min_7cf53, cJ9_min_7cf53, 2, (some .int))
theorem mk_J9_min_7cf53 : Mk jJ9_min_7cf53 2 := ⟨gt_1 (i := 239) rfl rfl, gt_1 (i := 9) rfl rfl, by decide +kernel, by decide +kernel, by decide +kernel, by decide +kernel⟩
theorem st_J9_min_7cf53 : Cond.static yJ9_min_7cf53 ∈ gt := gt_1 (i := 238) rfl rfl
abbrev jL_law : Jt := (yL_law, cL_law, 4, ret)
abbrev jX0_become : Jt := (yX0_become, cX0_become, 3, none)
theorem mk_X0_become : Mk jX0_become 2 := ⟨gt_2 (i := 12) rfl rfl, gt_1 (i := 3) rfl rfl, by decide +kernel, by decide +kernel, by decide +kernel, by decide +kernel⟩
theorem in_X0_become : Cond.instanceMethod yX0_become ∈ gt := gt_2 (i := 10) rfl rfl
theorem se_X0_become : Cond.selects RX0 yX0_become yX0_become ∈ gt := gt_2 (i := 11) rfl rfl
abbrev jX0_complete : Jt := (yX0_complete, cX0_complete, 3, none)
theorem mk_X0_complete : Mk jX0_complete 1 := ⟨gt_2 (i := 152) rfl rfl, gt_1 (i := 3) rfl rfl, by decide +kernel, by decide +kernel, by decide +kernel, by decide +kernel⟩
theorem in_X0_complete : Cond.instanceMethod yX0_complete ∈ gt := gt_2 (i := 150) rfl rfl
theorem se_X0_complete : Cond.selects RX0 yX0_complete yX0_complete ∈ gt := gt_2 (i := 151) rfl rfl
abbrev jX0_divide : Jt := (yX0_divide, cX0_divide, 5, (some .boolean))
theorem mk_X0_divide : Mk jX0_divide 1 := ⟨gt_3 (i := 14) rfl rfl, gt_1 (i := 3) rfl rfl, by decide +kernel, by decide +kernel, by decide +kernel, by decide +kernel⟩
theorem in_X0_divide : Cond.instanceMethod yX0_divide ∈ gt := gt_3 (i := 12) rfl rfl
theorem se_X0_divide : Cond.selects RX0 yX0_divide yX0_divide ∈ gt := gt_3 (i := 13) rfl rfl
abbrev jX0_init : Jt := (yX0_init, cX0_init, 2, none)
theorem mk_X0_init : Mk jX0_init 1 := ⟨gt_1 (i := 57) rfl rfl, gt_1 (i := 3) rfl rfl, by decide +kernel, by decide +kernel, by decide +kernel, by decide +kernel⟩
theorem in_X0_init : Cond.instanceMethod yX0_init ∈ gt := gt_1 (i := 56) rfl rfl
abbrev jX0_loadPolynomial : Jt := (yX0_loadPolynomial, cX0_loadPolynomial, 4, none)
theorem mk_X0_loadPolynomial : Mk jX0_loadPolynomial 0 := ⟨gt_2 (i := 65) rfl rfl, gt_1 (i := 3) rfl rfl, by decide +kernel, by decide +kernel, by decide +kernel, by decide +kernel⟩
theorem in_X0_loadPolynomial : Cond.instanceMethod yX0_loadPolynomial ∈ gt := gt_2 (i := 64) rfl rfl
theorem se_X0_loadPolynomial : Cond.selects RX0 yX0_loadPolynomial yX0_loadPolynomial ∈ gt := gt_0 (i := 4) rfl rfl
abbrev jX0_makePolynomial : Jt := (yX0_makePolynomial, cX0_makePolynomial, 2, none)
theorem mk_X0_makePolynomial : Mk jX0_makePolynomial 0 := ⟨gt_2 (i := 16) rfl rfl, gt_1 (i := 3) rfl rfl, by decide +kernel, by decide +kernel, by decide +kernel, by decide +kernel⟩
theorem in_X0_makePolynomial : Cond.instanceMethod yX0_makePolynomial ∈ gt := gt_2 (i := 15) rfl rfl
theorem se_X0_makePolynomial : Cond.selects RX0 yX0_makePolynomial yX0_makePolynomial ∈ gt := gt_0 (i := 0) rfl rfl
abbrev jX0_makeSteps : Jt := (yX0_makeSteps, cX0_makeSteps, 7, none)
theorem mk_X0_makeSteps : Mk jX0_makeSteps 0 := ⟨gt_2 (i := 61) rfl rfl, gt_1 (i := 3) rfl rfl, by decide +kernel, by decide +kernel, by decide +kernel, by decide +kernel⟩
theorem in_X0_makeSteps : Cond.instanceMethod yX0_makeSteps ∈ gt := gt_2 (i := 60) rfl rfl
theorem se_X0_makeSteps : Cond.selects RX0 yX0_makeSteps yX0_makeSteps ∈ gt := gt_0 (i := 3) rfl rfl
abbrev jX0_multiplyBy : Jt := (yX0_multiplyBy, cX0_multiplyBy, 5, none)
theorem mk_X0_multiplyBy : Mk jX0_multiplyBy 2 := ⟨gt_2 (i := 41) rfl rfl, gt_1 (i := 3) rfl rfl, by decide +kernel, by decide +kernel, by decide +kernel, by decide +kernel⟩
theorem in_X0_multiplyBy : Cond.instanceMethod yX0_multiplyBy ∈ gt := gt_2 (i := 40) rfl rfl
theorem se_X0_multiplyBy : Cond.selects RX0 yX0_multiplyBy yX0_multiplyBy ∈ gt := gt_0 (i := 2) rfl rfl
abbrev jX0_registerAt : Jt := (yX0_registerAt, cX0_registerAt, 2, (some .int))
theorem mk_X0_registerAt : Mk jX0_registerAt 1 := ⟨gt_2 (i := 161) rfl rfl, gt_1 (i := 3) rfl rfl, by decide +kernel, by decide +kernel, by decide +kernel, by decide +kernel⟩
theorem in_X0_registerAt : Cond.instanceMethod yX0_registerAt ∈ gt := gt_2 (i := 160) rfl rfl
theorem se_X0_registerAt : Cond.selects RX0 yX0_registerAt yX0_registerAt ∈ gt := gt_0 (i := 7) rfl rfl
abbrev jX0_restAt : Jt := (yX0_restAt, cX0_restAt, 7, (some .int))
theorem mk_X0_restAt : Mk jX0_restAt 1 := ⟨gt_3 (i := 23) rfl rfl, gt_1 (i := 3) rfl rfl, by decide +kernel, by decide +kernel, by decide +kernel, by decide +kernel⟩
theorem in_X0_restAt : Cond.instanceMethod yX0_restAt ∈ gt := gt_3 (i := 21) rfl rfl
theorem se_X0_restAt : Cond.selects RX0 yX0_restAt yX0_restAt ∈ gt := gt_3 (i := 22) rfl rfl
abbrev jX0_takeData : Jt := (yX0_takeData, cX0_takeData, 4, none)
theorem mk_X0_takeData : Mk jX0_takeData 1 := ⟨gt_2 (i := 156) rfl rfl, gt_1 (i := 3) rfl rfl, by decide +kernel, by decide +kernel, by decide +kernel, by decide +kernel⟩
theorem in_X0_takeData : Cond.instanceMethod yX0_takeData ∈ gt := gt_2 (i := 155) rfl rfl
theorem se_X0_takeData : Cond.selects RX0 yX0_takeData yX0_takeData ∈ gt := gt_0 (i := 6) rfl rfl
abbrev jX1_doubled : Jt := (yX1_doubled, cX1_doubled, 2, (some .int))
theorem mk_X1_doubled : Mk jX1_doubled 2 := ⟨gt_1 (i := 236) rfl rfl, gt_1 (i := 8) rfl rfl, by decide +kernel, by decide +kernel, by decide +kernel, by decide +kernel⟩
theorem st_X1_doubled : Cond.static yX1_doubled ∈ gt := gt_1 (i := 235) rfl rfl
abbrev jX1_isNew : Jt := (yX1_isNew, cX1_isNew, 4, (some .boolean))
theorem mk_X1_isNew : Mk jX1_isNew 2 := ⟨gt_1 (i := 224) rfl rfl, gt_1 (i := 8) rfl rfl, by decide +kernel, by decide +kernel, by decide +kernel, by decide +kernel⟩
theorem st_X1_isNew : Cond.static yX1_isNew ∈ gt := gt_1 (i := 223) rfl rfl
abbrev jX1_least : Jt := (yX1_least, cX1_least, 6, (some .int))
theorem mk_X1_least : Mk jX1_least 2 := ⟨gt_1 (i := 227) rfl rfl, gt_1 (i := 8) rfl rfl, by decide +kernel, by decide +kernel, by decide +kernel, by decide +kernel⟩
theorem st_X1_least : Cond.static yX1_least ∈ gt := gt_1 (i := 226) rfl rfl
abbrev jX1_reduced : Jt := (yX1_reduced, cX1_reduced, 2, (some .int))
theorem mk_X1_reduced : Mk jX1_reduced 2 := ⟨gt_1 (i := 230) rfl rfl, gt_1 (i := 8) rfl rfl, by decide +kernel, by decide +kernel, by decide +kernel, by decide +kernel⟩
theorem st_X1_reduced : Cond.static yX1_reduced ∈ gt := gt_1 (i := 229) rfl rfl
abbrev jX1_size : Jt := (yX1_size, cX1_size, 6, (some .int))
theorem mk_X1_size : Mk jX1_size 2 := ⟨gt_2 (i := 2) rfl rfl, gt_1 (i := 8) rfl rfl, by decide +kernel, by decide +kernel, by decide +kernel, by decide +kernel⟩
theorem st_X1_size : Cond.static yX1_size ∈ gt := gt_2 (i := 1) rfl rfl
abbrev jX1_tailLength : Jt := (yX1_tailLength, cX1_tailLength, 4, (some .int))
theorem mk_X1_tailLength : Mk jX1_tailLength 2 := ⟨gt_1 (i := 221) rfl rfl, gt_1 (i := 8) rfl rfl, by decide +kernel, by decide +kernel, by decide +kernel, by decide +kernel⟩
theorem st_X1_tailLength : Cond.static yX1_tailLength ∈ gt := gt_1 (i := 220) rfl rfl
abbrev jX2_become : Jt := (yX2_become, cX2_become, 5, none)
theorem mk_X2_become : Mk jX2_become 1 := ⟨gt_2 (i := 6) rfl rfl, gt_1 (i := 2) rfl rfl, by decide +kernel, by decide +kernel, by decide +kernel, by decide +kernel⟩
theorem in_X2_become : Cond.instanceMethod yX2_become ∈ gt := gt_2 (i := 4) rfl rfl
theorem se_X2_become : Cond.selects RX2 yX2_become yX2_become ∈ gt := gt_2 (i := 5) rfl rfl
abbrev jX2_has : Jt := (yX2_has, cX2_has, 2, (some .boolean))
theorem mk_X2_has : Mk jX2_has 1 := ⟨gt_2 (i := 86) rfl rfl, gt_1 (i := 2) rfl rfl, by decide +kernel, by decide +kernel, by decide +kernel, by decide +kernel⟩
theorem in_X2_has : Cond.instanceMethod yX2_has ∈ gt := gt_2 (i := 84) rfl rfl
theorem se_X2_has : Cond.selects RX2 yX2_has yX2_has ∈ gt := gt_2 (i := 85) rfl rfl
abbrev jX2_init : Jt := (yX2_init, cX2_init, 1, none)
theorem mk_X2_init : Mk jX2_init 0 := ⟨gt_1 (i := 25) rfl rfl, gt_1 (i := 2) rfl rfl, by decide +kernel, by decide +kernel, by decide +kernel, by decide +kernel⟩
theorem in_X2_init : Cond.instanceMethod yX2_init ∈ gt := gt_1 (i := 24) rfl rfl
abbrev jX2_minimalPolynomial : Jt := (yX2_minimalPolynomial, cX2_minimalPolynomial, 6, (some .int))
theorem mk_X2_minimalPolynomial : Mk jX2_minimalPolynomial 1 := ⟨gt_2 (i := 24) rfl rfl, gt_1 (i := 2) rfl rfl, by decide +kernel, by decide +kernel, by decide +kernel, by decide +kernel⟩
theorem in_X2_minimalPolynomial : Cond.instanceMethod yX2_minimalPolynomial ∈ gt := gt_2 (i := 22) rfl rfl
theorem se_X2_minimalPolynomial : Cond.selects RX2 yX2_minimalPolynomial yX2_minimalPolynomial ∈ gt := gt_2 (i := 23) rfl rfl
abbrev jX2_multiplyByRoot : Jt := (yX2_multiplyByRoot, cX2_multiplyByRoot, 4, none)
theorem mk_X2_multiplyByRoot : Mk jX2_multiplyByRoot 2 := ⟨gt_2 (i := 31) rfl rfl, gt_1 (i := 2) rfl rfl, by decide +kernel, by decide +kernel, by decide +kernel, by decide +kernel⟩
theorem in_X2_multiplyByRoot : Cond.instanceMethod yX2_multiplyByRoot ∈ gt := gt_2 (i := 30) rfl rfl
theorem se_X2_multiplyByRoot : Cond.selects RX2 yX2_multiplyByRoot yX2_multiplyByRoot ∈ gt := gt_0 (i := 1) rfl rfl
abbrev jX2_powerOfA : Jt := (yX2_powerOfA, cX2_powerOfA, 2, (some .int))
theorem mk_X2_powerOfA : Mk jX2_powerOfA 1 := ⟨gt_2 (i := 105) rfl rfl, gt_1 (i := 2) rfl rfl, by decide +kernel, by decide +kernel, by decide +kernel, by decide +kernel⟩
theorem in_X2_powerOfA : Cond.instanceMethod yX2_powerOfA ∈ gt := gt_2 (i := 103) rfl rfl
theorem se_X2_powerOfA : Cond.selects RX2 yX2_powerOfA yX2_powerOfA ∈ gt := gt_2 (i := 104) rfl rfl
abbrev jX2_product : Jt := (yX2_product, cX2_product, 4, (some .int))
theorem mk_X2_product : Mk jX2_product 2 := ⟨gt_2 (i := 35) rfl rfl, gt_1 (i := 2) rfl rfl, by decide +kernel, by decide +kernel, by decide +kernel, by decide +kernel⟩
theorem in_X2_product : Cond.instanceMethod yX2_product ∈ gt := gt_2 (i := 33) rfl rfl
theorem se_X2_product : Cond.selects RX2 yX2_product yX2_product ∈ gt := gt_2 (i := 34) rfl rfl
abbrev jX2_reciprocal : Jt := (yX2_reciprocal, cX2_reciprocal, 3, (some .int))
theorem mk_X2_reciprocal : Mk jX2_reciprocal 1 := ⟨gt_2 (i := 95) rfl rfl, gt_1 (i := 2) rfl rfl, by decide +kernel, by decide +kernel, by decide +kernel, by decide +kernel⟩
theorem in_X2_reciprocal : Cond.instanceMethod yX2_reciprocal ∈ gt := gt_2 (i := 93) rfl rfl
theorem se_X2_reciprocal : Cond.selects RX2 yX2_reciprocal yX2_reciprocal ∈ gt := gt_2 (i := 94) rfl rfl
abbrev jX3_addEarlier : Jt := (yX3_addEarlier, cX3_addEarlier, 4, none)
theorem mk_X3_addEarlier : Mk jX3_addEarlier 2 := ⟨gt_3 (i := 40) rfl rfl, gt_1 (i := 5) rfl rfl, by decide +kernel, by decide +kernel, by decide +kernel, by decide +kernel⟩
theorem in_X3_addEarlier : Cond.instanceMethod yX3_addEarlier ∈ gt := gt_3 (i := 39) rfl rfl
theorem se_X3_addEarlier : Cond.selects RX3 yX3_addEarlier yX3_addEarlier ∈ gt := gt_0 (i := 15) rfl rfl
abbrev jX3_apartBesidesMarks : Jt := (yX3_apartBesidesMarks, cX3_apartBesidesMarks, 4, (some .int))
theorem mk_X3_apartBesidesMarks : Mk jX3_apartBesidesMarks 1 := ⟨gt_3 (i := 55) rfl rfl, gt_1 (i := 5) rfl rfl, by decide +kernel, by decide +kernel, by decide +kernel, by decide +kernel⟩
theorem in_X3_apartBesidesMarks : Cond.instanceMethod yX3_apartBesidesMarks ∈ gt := gt_3 (i := 54) rfl rfl
theorem se_X3_apartBesidesMarks : Cond.selects RX3 yX3_apartBesidesMarks yX3_apartBesidesMarks ∈ gt := gt_0 (i := 18) rfl rfl
abbrev jX3_becomesRight : Jt := (yX3_becomesRight, cX3_becomesRight, 3, (some .boolean))
theorem mk_X3_becomesRight : Mk jX3_becomesRight 0 := ⟨gt_3 (i := 10) rfl rfl, gt_1 (i := 5) rfl rfl, by decide +kernel, by decide +kernel, by decide +kernel, by decide +kernel⟩
theorem in_X3_becomesRight : Cond.instanceMethod yX3_becomesRight ∈ gt := gt_3 (i := 9) rfl rfl
theorem se_X3_becomesRight : Cond.selects RX3 yX3_becomesRight yX3_becomesRight ∈ gt := gt_0 (i := 11) rfl rfl
abbrev jX3_findWrong : Jt := (yX3_findWrong, cX3_findWrong, 4, (some .boolean))
theorem mk_X3_findWrong : Mk jX3_findWrong 1 := ⟨gt_3 (i := 44) rfl rfl, gt_1 (i := 5) rfl rfl, by decide +kernel, by decide +kernel, by decide +kernel, by decide +kernel⟩
theorem in_X3_findWrong : Cond.instanceMethod yX3_findWrong ∈ gt := gt_3 (i := 43) rfl rfl
theorem se_X3_findWrong : Cond.selects RX3 yX3_findWrong yX3_findWrong ∈ gt := gt_0 (i := 16) rfl rfl
abbrev jX3_init : Jt := (yX3_init, cX3_init, 3, none)
theorem mk_X3_init : Mk jX3_init 2 := ⟨gt_1 (i := 121) rfl rfl, gt_1 (i := 5) rfl rfl, by decide +kernel, by decide +kernel, by decide +kernel, by decide +kernel⟩
theorem in_X3_init : Cond.instanceMethod yX3_init ∈ gt := gt_1 (i := 120) rfl rfl
abbrev jX3_isMended : Jt := (yX3_isMended, cX3_isMended, 9, (some .boolean))
theorem mk_X3_isMended : Mk jX3_isMended 3 := ⟨gt_3 (i := 5) rfl rfl, gt_1 (i := 5) rfl rfl, by decide +kernel, by decide +kernel, by decide +kernel, by decide +kernel⟩
theorem in_X3_isMended : Cond.instanceMethod yX3_isMended ∈ gt := gt_3 (i := 4) rfl rfl
theorem se_X3_isMended : Cond.selects RX3 yX3_isMended yX3_isMended ∈ gt := gt_0 (i := 10) rfl rfl
abbrev jX3_locate : Jt := (yX3_locate, cX3_locate, 7, (some .int))
theorem mk_X3_locate : Mk jX3_locate 0 := ⟨gt_3 (i := 29) rfl rfl, gt_1 (i := 5) rfl rfl, by decide +kernel, by decide +kernel, by decide +kernel, by decide +kernel⟩
theorem in_X3_locate : Cond.instanceMethod yX3_locate ∈ gt := gt_3 (i := 28) rfl rfl
theorem se_X3_locate : Cond.selects RX3 yX3_locate yX3_locate ∈ gt := gt_0 (i := 13) rfl rfl
abbrev jX3_locatorIsZero : Jt := (yX3_locatorIsZero, cX3_locatorIsZero, 4, (some .boolean))
theorem mk_X3_locatorIsZero : Mk jX3_locatorIsZero 1 := ⟨gt_3 (i := 49) rfl rfl, gt_1 (i := 5) rfl rfl, by decide +kernel, by decide +kernel, by decide +kernel, by decide +kernel⟩
theorem in_X3_locatorIsZero : Cond.instanceMethod yX3_locatorIsZero ∈ gt := gt_3 (i := 48) rfl rfl
theorem se_X3_locatorIsZero : Cond.selects RX3 yX3_locatorIsZero yX3_locatorIsZero ∈ gt := gt_0 (i := 17) rfl rfl
abbrev jX3_mend : Jt := (yX3_mend, cX3_mend, 4, (some .int))
theorem mk_X3_mend : Mk jX3_mend 1 := ⟨gt_3 (i := 0) rfl rfl, gt_1 (i := 5) rfl rfl, by decide +kernel, by decide +kernel, by decide +kernel, by decide +kernel⟩
theorem in_X3_mend : Cond.instanceMethod yX3_mend ∈ gt := gt_2 (i := 238) rfl rfl
theorem se_X3_mend : Cond.selects RX3 yX3_mend yX3_mend ∈ gt := gt_2 (i := 239) rfl rfl
abbrev jX3_missAt : Jt := (yX3_missAt, cX3_missAt, 5, (some .int))
theorem mk_X3_missAt : Mk jX3_missAt 2 := ⟨gt_3 (i := 34) rfl rfl, gt_1 (i := 5) rfl rfl, by decide +kernel, by decide +kernel, by decide +kernel, by decide +kernel⟩
theorem in_X3_missAt : Cond.instanceMethod yX3_missAt ∈ gt := gt_3 (i := 33) rfl rfl
theorem se_X3_missAt : Cond.selects RX3 yX3_missAt yX3_missAt ∈ gt := gt_0 (i := 14) rfl rfl
abbrev jX3_takeSyndromes : Jt := (yX3_takeSyndromes, cX3_takeSyndromes, 3, none)
theorem mk_X3_takeSyndromes : Mk jX3_takeSyndromes 0 := ⟨gt_3 (i := 19) rfl rfl, gt_1 (i := 5) rfl rfl, by decide +kernel, by decide +kernel, by decide +kernel, by decide +kernel⟩
theorem in_X3_takeSyndromes : Cond.instanceMethod yX3_takeSyndromes ∈ gt := gt_3 (i := 18) rfl rfl
theorem se_X3_takeSyndromes : Cond.selects RX3 yX3_takeSyndromes yX3_takeSyndromes ∈ gt := gt_0 (i := 12) rfl rfl
abbrev jX4_hold : Jt := (yX4_hold, cX4_hold, 3, none)
theorem mk_X4_hold : Mk jX4_hold 2 := ⟨gt_2 (i := 219) rfl rfl, gt_1 (i := 6) rfl rfl, by decide +kernel, by decide +kernel, by decide +kernel, by decide +kernel⟩
theorem in_X4_hold : Cond.instanceMethod yX4_hold ∈ gt := gt_2 (i := 217) rfl rfl
theorem se_X4_hold : Cond.selects RX4 yX4_hold yX4_hold ∈ gt := gt_2 (i := 218) rfl rfl
abbrev jX4_init : Jt := (yX4_init, cX4_init, 1, none)
theorem mk_X4_init : Mk jX4_init 0 := ⟨gt_1 (i := 159) rfl rfl, gt_1 (i := 6) rfl rfl, by decide +kernel, by decide +kernel, by decide +kernel, by decide +kernel⟩
theorem in_X4_init : Cond.instanceMethod yX4_init ∈ gt := gt_1 (i := 158) rfl rfl
abbrev jX4_program : Jt := (yX4_program, cX4_program, 3, (some .int))
theorem mk_X4_program : Mk jX4_program 1 := ⟨gt_2 (i := 178) rfl rfl, gt_1 (i := 6) rfl rfl, by decide +kernel, by decide +kernel, by decide +kernel, by decide +kernel⟩
theorem in_X4_program : Cond.instanceMethod yX4_program ∈ gt := gt_2 (i := 176) rfl rfl
theorem se_X4_program : Cond.selects RX4 yX4_program yX4_program ∈ gt := gt_2 (i := 177) rfl rfl
abbrev jX4_renew : Jt := (yX4_renew, cX4_renew, 2, none)
theorem mk_X4_renew : Mk jX4_renew 1 := ⟨gt_2 (i := 69) rfl rfl, gt_1 (i := 6) rfl rfl, by decide +kernel, by decide +kernel, by decide +kernel, by decide +kernel⟩
theorem in_X4_renew : Cond.instanceMethod yX4_renew ∈ gt := gt_2 (i := 67) rfl rfl
theorem se_X4_renew : Cond.selects RX4 yX4_renew yX4_renew ∈ gt := gt_2 (i := 68) rfl rfl
abbrev jX4_turn : Jt := (yX4_turn, cX4_turn, 2, (some .int))
theorem mk_X4_turn : Mk jX4_turn 1 := ⟨gt_2 (i := 209) rfl rfl, gt_1 (i := 6) rfl rfl, by decide +kernel, by decide +kernel, by decide +kernel, by decide +kernel⟩
theorem in_X4_turn : Cond.instanceMethod yX4_turn ∈ gt := gt_2 (i := 207) rfl rfl
theorem se_X4_turn : Cond.selects RX4 yX4_turn yX4_turn ∈ gt := gt_2 (i := 208) rfl rfl
abbrev jX4_wipe : Jt := (yX4_wipe, cX4_wipe, 3, none)
theorem mk_X4_wipe : Mk jX4_wipe 1 := ⟨gt_2 (i := 196) rfl rfl, gt_1 (i := 6) rfl rfl, by decide +kernel, by decide +kernel, by decide +kernel, by decide +kernel⟩
theorem in_X4_wipe : Cond.instanceMethod yX4_wipe ∈ gt := gt_2 (i := 194) rfl rfl
theorem se_X4_wipe : Cond.selects RX4 yX4_wipe yX4_wipe ∈ gt := gt_2 (i := 195) rfl rfl
abbrev jX5_apart : Jt := (yX5_apart, cX5_apart, 4, (some .int))
theorem mk_X5_apart : Mk jX5_apart 1 := ⟨gt_2 (i := 182) rfl rfl, gt_1 (i := 4) rfl rfl, by decide +kernel, by decide +kernel, by decide +kernel, by decide +kernel⟩
theorem in_X5_apart : Cond.instanceMethod yX5_apart ∈ gt := gt_2 (i := 180) rfl rfl
theorem se_X5_apart : Cond.selects RX5 yX5_apart yX5_apart ∈ gt := gt_2 (i := 181) rfl rfl
abbrev jX5_at : Jt := (yX5_at, cX5_at, 2, (some .int))
theorem mk_X5_at : Mk jX5_at 1 := ⟨gt_2 (i := 166) rfl rfl, gt_1 (i := 4) rfl rfl, by decide +kernel, by decide +kernel, by decide +kernel, by decide +kernel⟩
theorem in_X5_at : Cond.instanceMethod yX5_at ∈ gt := gt_2 (i := 164) rfl rfl
theorem se_X5_at : Cond.selects RX5 yX5_at yX5_at ∈ gt := gt_2 (i := 165) rfl rfl
abbrev jX5_become : Jt := (yX5_become, cX5_become, 2, none)
theorem mk_X5_become : Mk jX5_become 1 := ⟨gt_2 (i := 74) rfl rfl, gt_1 (i := 4) rfl rfl, by decide +kernel, by decide +kernel, by decide +kernel, by decide +kernel⟩
theorem in_X5_become : Cond.instanceMethod yX5_become ∈ gt := gt_2 (i := 72) rfl rfl
theorem se_X5_become : Cond.selects RX5 yX5_become yX5_become ∈ gt := gt_2 (i := 73) rfl rfl
abbrev jX5_becomeDifference : Jt := (yX5_becomeDifference, cX5_becomeDifference, 4, none)
theorem mk_X5_becomeDifference : Mk jX5_becomeDifference 2 := ⟨gt_3 (i := 62) rfl rfl, gt_1 (i := 4) rfl rfl, by decide +kernel, by decide +kernel, by decide +kernel, by decide +kernel⟩
theorem in_X5_becomeDifference : Cond.instanceMethod yX5_becomeDifference ∈ gt := gt_3 (i := 60) rfl rfl
theorem se_X5_becomeDifference : Cond.selects RX5 yX5_becomeDifference yX5_becomeDifference ∈ gt := gt_3 (i := 61) rfl rfl
abbrev jX5_becomeFirstOnes : Jt := (yX5_becomeFirstOnes, cX5_becomeFirstOnes, 3, none)
theorem mk_X5_becomeFirstOnes : Mk jX5_becomeFirstOnes 1 := ⟨gt_2 (i := 45) rfl rfl, gt_1 (i := 4) rfl rfl, by decide +kernel, by decide +kernel, by decide +kernel, by decide +kernel⟩
theorem in_X5_becomeFirstOnes : Cond.instanceMethod yX5_becomeFirstOnes ∈ gt := gt_2 (i := 43) rfl rfl
theorem se_X5_becomeFirstOnes : Cond.selects RX5 yX5_becomeFirstOnes yX5_becomeFirstOnes ∈ gt := gt_2 (i := 44) rfl rfl
abbrev jX5_byteAt : Jt := (yX5_byteAt, cX5_byteAt, 2, (some .int))
theorem mk_X5_byteAt : Mk jX5_byteAt 1 := ⟨gt_2 (i := 130) rfl rfl, gt_1 (i := 4) rfl rfl, by decide +kernel, by decide +kernel, by decide +kernel, by decide +kernel⟩
theorem in_X5_byteAt : Cond.instanceMethod yX5_byteAt ∈ gt := gt_2 (i := 128) rfl rfl
theorem se_X5_byteAt : Cond.selects RX5 yX5_byteAt yX5_byteAt ∈ gt := gt_2 (i := 129) rfl rfl
abbrev jX5_clear : Jt := (yX5_clear, cX5_clear, 1, none)
theorem mk_X5_clear : Mk jX5_clear 0 := ⟨gt_2 (i := 49) rfl rfl, gt_1 (i := 4) rfl rfl, by decide +kernel, by decide +kernel, by decide +kernel, by decide +kernel⟩
theorem in_X5_clear : Cond.instanceMethod yX5_clear ∈ gt := gt_2 (i := 47) rfl rfl
theorem se_X5_clear : Cond.selects RX5 yX5_clear yX5_clear ∈ gt := gt_2 (i := 48) rfl rfl
abbrev jX5_init : Jt := (yX5_init, cX5_init, 1, none)
theorem mk_X5_init : Mk jX5_init 0 := ⟨gt_1 (i := 63) rfl rfl, gt_1 (i := 4) rfl rfl, by decide +kernel, by decide +kernel, by decide +kernel, by decide +kernel⟩
theorem in_X5_init : Cond.instanceMethod yX5_init ∈ gt := gt_1 (i := 62) rfl rfl
abbrev jX5_ones : Jt := (yX5_ones, cX5_ones, 3, (some .int))
theorem mk_X5_ones : Mk jX5_ones 0 := ⟨gt_2 (i := 223) rfl rfl, gt_1 (i := 4) rfl rfl, by decide +kernel, by decide +kernel, by decide +kernel, by decide +kernel⟩
theorem in_X5_ones : Cond.instanceMethod yX5_ones ∈ gt := gt_2 (i := 221) rfl rfl
theorem se_X5_ones : Cond.selects RX5 yX5_ones yX5_ones ∈ gt := gt_2 (i := 222) rfl rfl
abbrev jX5_set : Jt := (yX5_set, cX5_set, 5, none)
theorem mk_X5_set : Mk jX5_set 2 := ⟨gt_2 (i := 56) rfl rfl, gt_1 (i := 4) rfl rfl, by decide +kernel, by decide +kernel, by decide +kernel, by decide +kernel⟩
theorem in_X5_set : Cond.instanceMethod yX5_set ∈ gt := gt_2 (i := 54) rfl rfl
theorem se_X5_set : Cond.selects RX5 yX5_set yX5_set ∈ gt := gt_2 (i := 55) rfl rfl
abbrev jX5_setByte : Jt := (yX5_setByte, cX5_setByte, 4, none)
theorem mk_X5_setByte : Mk jX5_setByte 2 := ⟨gt_2 (i := 134) rfl rfl, gt_1 (i := 4) rfl rfl, by decide +kernel, by decide +kernel, by decide +kernel, by decide +kernel⟩
theorem in_X5_setByte : Cond.instanceMethod yX5_setByte ∈ gt := gt_2 (i := 132) rfl rfl
theorem se_X5_setByte : Cond.selects RX5 yX5_setByte yX5_setByte ∈ gt := gt_2 (i := 133) rfl rfl
abbrev jX6_about : Jt := (yX6_about, cX6_about, 2, (some .int))
theorem mk_X6_about : Mk jX6_about 1 := ⟨gt_3 (i := 93) rfl rfl, gt_1 (i := 1) rfl rfl, by decide +kernel, by decide +kernel, by decide +kernel, by decide +kernel⟩
theorem in_X6_about : Cond.instanceMethod yX6_about ∈ gt := gt_3 (i := 91) rfl rfl
theorem se_X6_about : Cond.selects RX6 yX6_about yX6_about ∈ gt := gt_3 (i := 92) rfl rfl
abbrev jX6_bit : Jt := (yX6_bit, cX6_bit, 3, (some .int))
theorem mk_X6_bit : Mk jX6_bit 2 := ⟨gt_2 (i := 232) rfl rfl, gt_1 (i := 1) rfl rfl, by decide +kernel, by decide +kernel, by decide +kernel, by decide +kernel⟩
theorem in_X6_bit : Cond.instanceMethod yX6_bit ∈ gt := gt_2 (i := 230) rfl rfl
theorem se_X6_bit : Cond.selects RX6 yX6_bit yX6_bit ∈ gt := gt_2 (i := 231) rfl rfl
abbrev jX6_copy : Jt := (yX6_copy, cX6_copy, 3, (some .int))
theorem mk_X6_copy : Mk jX6_copy 2 := ⟨gt_3 (i := 76) rfl rfl, gt_1 (i := 1) rfl rfl, by decide +kernel, by decide +kernel, by decide +kernel, by decide +kernel⟩
theorem in_X6_copy : Cond.instanceMethod yX6_copy ∈ gt := gt_3 (i := 74) rfl rfl
theorem se_X6_copy : Cond.selects RX6 yX6_copy yX6_copy ∈ gt := gt_3 (i := 75) rfl rfl
abbrev jX6_erase : Jt := (yX6_erase, cX6_erase, 2, (some .int))
theorem mk_X6_erase : Mk jX6_erase 1 := ⟨gt_2 (i := 192) rfl rfl, gt_1 (i := 1) rfl rfl, by decide +kernel, by decide +kernel, by decide +kernel, by decide +kernel⟩
theorem in_X6_erase : Cond.instanceMethod yX6_erase ∈ gt := gt_2 (i := 190) rfl rfl
theorem se_X6_erase : Cond.selects RX6 yX6_erase yX6_erase ∈ gt := gt_2 (i := 191) rfl rfl
abbrev jX6_fill : Jt := (yX6_fill, cX6_fill, 6, (some .int))
theorem mk_X6_fill : Mk jX6_fill 2 := ⟨gt_2 (i := 139) rfl rfl, gt_1 (i := 1) rfl rfl, by decide +kernel, by decide +kernel, by decide +kernel, by decide +kernel⟩
theorem in_X6_fill : Cond.instanceMethod yX6_fill ∈ gt := gt_2 (i := 137) rfl rfl
theorem se_X6_fill : Cond.selects RX6 yX6_fill yX6_fill ∈ gt := gt_2 (i := 138) rfl rfl
abbrev jX6_flip : Jt := (yX6_flip, cX6_flip, 3, (some .int))
theorem mk_X6_flip : Mk jX6_flip 2 := ⟨gt_2 (i := 201) rfl rfl, gt_1 (i := 1) rfl rfl, by decide +kernel, by decide +kernel, by decide +kernel, by decide +kernel⟩
theorem in_X6_flip : Cond.instanceMethod yX6_flip ∈ gt := gt_2 (i := 199) rfl rfl
theorem se_X6_flip : Cond.selects RX6 yX6_flip yX6_flip ∈ gt := gt_2 (i := 200) rfl rfl
abbrev jX6_generator : Jt := (yX6_generator, cX6_generator, 2, (some .int))
theorem mk_X6_generator : Mk jX6_generator 1 := ⟨gt_2 (i := 118) rfl rfl, gt_1 (i := 1) rfl rfl, by decide +kernel, by decide +kernel, by decide +kernel, by decide +kernel⟩
theorem in_X6_generator : Cond.instanceMethod yX6_generator ∈ gt := gt_2 (i := 116) rfl rfl
theorem se_X6_generator : Cond.selects RX6 yX6_generator yX6_generator ∈ gt := gt_2 (i := 117) rfl rfl
abbrev jX6_get : Jt := (yX6_get, cX6_get, 2, (some .int))
theorem mk_X6_get : Mk jX6_get 1 := ⟨gt_2 (i := 144) rfl rfl, gt_1 (i := 1) rfl rfl, by decide +kernel, by decide +kernel, by decide +kernel, by decide +kernel⟩
theorem in_X6_get : Cond.instanceMethod yX6_get ∈ gt := gt_2 (i := 142) rfl rfl
theorem se_X6_get : Cond.selects RX6 yX6_get yX6_get ∈ gt := gt_2 (i := 143) rfl rfl
abbrev jX6_hasBit : Jt := (yX6_hasBit, cX6_hasBit, 2, (some .boolean))
theorem mk_X6_hasBit : Mk jX6_hasBit 1 := ⟨gt_2 (i := 205) rfl rfl, gt_1 (i := 1) rfl rfl, by decide +kernel, by decide +kernel, by decide +kernel, by decide +kernel⟩
theorem in_X6_hasBit : Cond.instanceMethod yX6_hasBit ∈ gt := gt_2 (i := 204) rfl rfl
theorem se_X6_hasBit : Cond.selects RX6 yX6_hasBit yX6_hasBit ∈ gt := gt_0 (i := 9) rfl rfl
abbrev jX6_hasByte : Jt := (yX6_hasByte, cX6_hasByte, 2, (some .boolean))
theorem mk_X6_hasByte : Mk jX6_hasByte 1 := ⟨gt_2 (i := 126) rfl rfl, gt_1 (i := 1) rfl rfl, by decide +kernel, by decide +kernel, by decide +kernel, by decide +kernel⟩
theorem in_X6_hasByte : Cond.instanceMethod yX6_hasByte ∈ gt := gt_2 (i := 125) rfl rfl
theorem se_X6_hasByte : Cond.selects RX6 yX6_hasByte yX6_hasByte ∈ gt := gt_0 (i := 5) rfl rfl
abbrev jX6_hasPage : Jt := (yX6_hasPage, cX6_hasPage, 2, (some .boolean))
theorem mk_X6_hasPage : Mk jX6_hasPage 1 := ⟨gt_2 (i := 174) rfl rfl, gt_1 (i := 1) rfl rfl, by decide +kernel, by decide +kernel, by decide +kernel, by decide +kernel⟩
theorem in_X6_hasPage : Cond.instanceMethod yX6_hasPage ∈ gt := gt_2 (i := 173) rfl rfl
theorem se_X6_hasPage : Cond.selects RX6 yX6_hasPage yX6_hasPage ∈ gt := gt_0 (i := 8) rfl rfl
abbrev jX6_init : Jt := (yX6_init, cX6_init, 2, none)
theorem mk_X6_init : Mk jX6_init 0 := ⟨gt_1 (i := 17) rfl rfl, gt_1 (i := 1) rfl rfl, by decide +kernel, by decide +kernel, by decide +kernel, by decide +kernel⟩
theorem in_X6_init : Cond.instanceMethod yX6_init ∈ gt := gt_1 (i := 16) rfl rfl
abbrev jX6_inverse : Jt := (yX6_inverse, cX6_inverse, 2, (some .int))
theorem mk_X6_inverse : Mk jX6_inverse 1 := ⟨gt_2 (i := 91) rfl rfl, gt_1 (i := 1) rfl rfl, by decide +kernel, by decide +kernel, by decide +kernel, by decide +kernel⟩
theorem in_X6_inverse : Cond.instanceMethod yX6_inverse ∈ gt := gt_2 (i := 89) rfl rfl
theorem se_X6_inverse : Cond.selects RX6 yX6_inverse yX6_inverse ∈ gt := gt_2 (i := 90) rfl rfl
abbrev jX6_log : Jt := (yX6_log, cX6_log, 2, (some .int))
theorem mk_X6_log : Mk jX6_log 1 := ⟨gt_2 (i := 109) rfl rfl, gt_1 (i := 1) rfl rfl, by decide +kernel, by decide +kernel, by decide +kernel, by decide +kernel⟩
theorem in_X6_log : Cond.instanceMethod yX6_log ∈ gt := gt_2 (i := 107) rfl rfl
theorem se_X6_log : Cond.selects RX6 yX6_log yX6_log ∈ gt := gt_2 (i := 108) rfl rfl
abbrev jX6_mark : Jt := (yX6_mark, cX6_mark, 4, (some .int))
theorem mk_X6_mark : Mk jX6_mark 3 := ⟨gt_2 (i := 227) rfl rfl, gt_1 (i := 1) rfl rfl, by decide +kernel, by decide +kernel, by decide +kernel, by decide +kernel⟩
theorem in_X6_mark : Cond.instanceMethod yX6_mark ∈ gt := gt_2 (i := 225) rfl rfl
theorem se_X6_mark : Cond.selects RX6 yX6_mark yX6_mark ∈ gt := gt_2 (i := 226) rfl rfl
abbrev jX6_minimal : Jt := (yX6_minimal, cX6_minimal, 2, (some .int))
theorem mk_X6_minimal : Mk jX6_minimal 1 := ⟨gt_2 (i := 113) rfl rfl, gt_1 (i := 1) rfl rfl, by decide +kernel, by decide +kernel, by decide +kernel, by decide +kernel⟩
theorem in_X6_minimal : Cond.instanceMethod yX6_minimal ∈ gt := gt_2 (i := 111) rfl rfl
theorem se_X6_minimal : Cond.selects RX6 yX6_minimal yX6_minimal ∈ gt := gt_2 (i := 112) rfl rfl
abbrev jX6_open : Jt := (yX6_open, cX6_open, 6, (some .int))
theorem mk_X6_open : Mk jX6_open 3 := ⟨gt_1 (i := 218) rfl rfl, gt_1 (i := 1) rfl rfl, by decide +kernel, by decide +kernel, by decide +kernel, by decide +kernel⟩
theorem in_X6_open : Cond.instanceMethod yX6_open ∈ gt := gt_1 (i := 216) rfl rfl
theorem se_X6_open : Cond.selects RX6 yX6_open yX6_open ∈ gt := gt_1 (i := 217) rfl rfl
abbrev jX6_power : Jt := (yX6_power, cX6_power, 2, (some .int))
theorem mk_X6_power : Mk jX6_power 1 := ⟨gt_2 (i := 99) rfl rfl, gt_1 (i := 1) rfl rfl, by decide +kernel, by decide +kernel, by decide +kernel, by decide +kernel⟩
theorem in_X6_power : Cond.instanceMethod yX6_power ∈ gt := gt_2 (i := 97) rfl rfl
theorem se_X6_power : Cond.selects RX6 yX6_power yX6_power ∈ gt := gt_2 (i := 98) rfl rfl
abbrev jX6_put : Jt := (yX6_put, cX6_put, 4, (some .int))
theorem mk_X6_put : Mk jX6_put 2 := ⟨gt_2 (i := 122) rfl rfl, gt_1 (i := 1) rfl rfl, by decide +kernel, by decide +kernel, by decide +kernel, by decide +kernel⟩
theorem in_X6_put : Cond.instanceMethod yX6_put ∈ gt := gt_2 (i := 120) rfl rfl
theorem se_X6_put : Cond.selects RX6 yX6_put yX6_put ∈ gt := gt_2 (i := 121) rfl rfl
abbrev jX6_read : Jt := (yX6_read, cX6_read, 3, (some .int))
theorem mk_X6_read : Mk jX6_read 1 := ⟨gt_2 (i := 236) rfl rfl, gt_1 (i := 1) rfl rfl, by decide +kernel, by decide +kernel, by decide +kernel, by decide +kernel⟩
theorem in_X6_read : Cond.instanceMethod yX6_read ∈ gt := gt_2 (i := 234) rfl rfl
theorem se_X6_read : Cond.selects RX6 yX6_read yX6_read ∈ gt := gt_2 (i := 235) rfl rfl
abbrev jX6_refresh : Jt := (yX6_refresh, cX6_refresh, 5, (some .int))
theorem mk_X6_refresh : Mk jX6_refresh 1 := ⟨gt_3 (i := 84) rfl rfl, gt_1 (i := 1) rfl rfl, by decide +kernel, by decide +kernel, by decide +kernel, by decide +kernel⟩
theorem in_X6_refresh : Cond.instanceMethod yX6_refresh ∈ gt := gt_3 (i := 82) rfl rfl
theorem se_X6_refresh : Cond.selects RX6 yX6_refresh yX6_refresh ∈ gt := gt_3 (i := 83) rfl rfl
abbrev jX6_rewrite : Jt := (yX6_rewrite, cX6_rewrite, 2, (some .int))
theorem mk_X6_rewrite : Mk jX6_rewrite 1 := ⟨gt_3 (i := 80) rfl rfl, gt_1 (i := 1) rfl rfl, by decide +kernel, by decide +kernel, by decide +kernel, by decide +kernel⟩
theorem in_X6_rewrite : Cond.instanceMethod yX6_rewrite ∈ gt := gt_3 (i := 79) rfl rfl
theorem se_X6_rewrite : Cond.selects RX6 yX6_rewrite yX6_rewrite ∈ gt := gt_0 (i := 19) rfl rfl
abbrev jX6_stick : Jt := (yX6_stick, cX6_stick, 4, (some .int))
theorem mk_X6_stick : Mk jX6_stick 3 := ⟨gt_2 (i := 215) rfl rfl, gt_1 (i := 1) rfl rfl, by decide +kernel, by decide +kernel, by decide +kernel, by decide +kernel⟩
theorem in_X6_stick : Cond.instanceMethod yX6_stick ∈ gt := gt_2 (i := 213) rfl rfl
theorem se_X6_stick : Cond.selects RX6 yX6_stick yX6_stick ∈ gt := gt_2 (i := 214) rfl rfl
abbrev jX6_syndrome : Jt := (yX6_syndrome, cX6_syndrome, 3, (some .int))
theorem mk_X6_syndrome : Mk jX6_syndrome 2 := ⟨gt_3 (i := 70) rfl rfl, gt_1 (i := 1) rfl rfl, by decide +kernel, by decide +kernel, by decide +kernel, by decide +kernel⟩
theorem in_X6_syndrome : Cond.instanceMethod yX6_syndrome ∈ gt := gt_3 (i := 68) rfl rfl
theorem se_X6_syndrome : Cond.selects RX6 yX6_syndrome yX6_syndrome ∈ gt := gt_3 (i := 69) rfl rfl
abbrev jX6_tail : Jt := (yX6_tail, cX6_tail, 2, (some .int))
theorem mk_X6_tail : Mk jX6_tail 1 := ⟨gt_2 (i := 148) rfl rfl, gt_1 (i := 1) rfl rfl, by decide +kernel, by decide +kernel, by decide +kernel, by decide +kernel⟩
theorem in_X6_tail : Cond.instanceMethod yX6_tail ∈ gt := gt_2 (i := 146) rfl rfl
theorem se_X6_tail : Cond.selects RX6 yX6_tail yX6_tail ∈ gt := gt_2 (i := 147) rfl rfl
abbrev jX6_times : Jt := (yX6_times, cX6_times, 3, (some .int))
theorem mk_X6_times : Mk jX6_times 2 := ⟨gt_2 (i := 82) rfl rfl, gt_1 (i := 1) rfl rfl, by decide +kernel, by decide +kernel, by decide +kernel, by decide +kernel⟩
theorem in_X6_times : Cond.instanceMethod yX6_times ∈ gt := gt_2 (i := 80) rfl rfl
theorem se_X6_times : Cond.selects RX6 yX6_times yX6_times ∈ gt := gt_2 (i := 81) rfl rfl
abbrev jX6_told : Jt := (yX6_told, cX6_told, 4, (some .int))
theorem mk_X6_told : Mk jX6_told 2 := ⟨gt_3 (i := 88) rfl rfl, gt_1 (i := 1) rfl rfl, by decide +kernel, by decide +kernel, by decide +kernel, by decide +kernel⟩
theorem in_X6_told : Cond.instanceMethod yX6_told ∈ gt := gt_3 (i := 86) rfl rfl
theorem se_X6_told : Cond.selects RX6 yX6_told yX6_told ∈ gt := gt_3 (i := 87) rfl rfl
abbrev jX6_turned : Jt := (yX6_turned, cX6_turned, 4, (some .int))
theorem mk_X6_turned : Mk jX6_turned 1 := ⟨gt_3 (i := 66) rfl rfl, gt_1 (i := 1) rfl rfl, by decide +kernel, by decide +kernel, by decide +kernel, by decide +kernel⟩
theorem in_X6_turned : Cond.instanceMethod yX6_turned ∈ gt := gt_3 (i := 64) rfl rfl
theorem se_X6_turned : Cond.selects RX6 yX6_turned yX6_turned ∈ gt := gt_3 (i := 65) rfl rfl
abbrev jX6_write : Jt := (yX6_write, cX6_write, 2, (some .int))
theorem mk_X6_write : Mk jX6_write 1 := ⟨gt_2 (i := 170) rfl rfl, gt_1 (i := 1) rfl rfl, by decide +kernel, by decide +kernel, by decide +kernel, by decide +kernel⟩
theorem in_X6_write : Cond.instanceMethod yX6_write ∈ gt := gt_2 (i := 168) rfl rfl
theorem se_X6_write : Cond.selects RX6 yX6_write yX6_write ∈ gt := gt_2 (i := 169) rfl rfl
abbrev jX7_about : Jt := (yX7_about, cX7_about, 2, (some .int))
theorem mk_X7_about : Mk jX7_about 1 := ⟨gt_4 (i := 134) rfl rfl, gt_1 (i := 7) rfl rfl, by decide +kernel, by decide +kernel, by decide +kernel, by decide +kernel⟩
theorem in_X7_about : Cond.instanceMethod yX7_about ∈ gt := gt_4 (i := 132) rfl rfl
theorem se_X7_about : Cond.selects RX7 yX7_about yX7_about ∈ gt := gt_4 (i := 133) rfl rfl
abbrev jX7_bit : Jt := (yX7_bit, cX7_bit, 3, (some .int))
theorem mk_X7_bit : Mk jX7_bit 2 := ⟨gt_4 (i := 86) rfl rfl, gt_1 (i := 7) rfl rfl, by decide +kernel, by decide +kernel, by decide +kernel, by decide +kernel⟩
theorem in_X7_bit : Cond.instanceMethod yX7_bit ∈ gt := gt_4 (i := 84) rfl rfl
theorem se_X7_bit : Cond.selects RX7 yX7_bit yX7_bit ∈ gt := gt_4 (i := 85) rfl rfl
abbrev jX7_by : Jt := (yX7_by, cX7_by, 3, (some .int))
theorem mk_X7_by : Mk jX7_by 2 := ⟨gt_3 (i := 220) rfl rfl, gt_1 (i := 7) rfl rfl, by decide +kernel, by decide +kernel, by decide +kernel, by decide +kernel⟩
theorem in_X7_by : Cond.instanceMethod yX7_by ∈ gt := gt_3 (i := 219) rfl rfl
theorem se_X7_by : Cond.selects RX7 yX7_by yX7_by ∈ gt := gt_0 (i := 25) rfl rfl
abbrev jX7_complete : Jt := (yX7_complete, cX7_complete, 4, none)
theorem mk_X7_complete : Mk jX7_complete 0 := ⟨gt_4 (i := 35) rfl rfl, gt_1 (i := 7) rfl rfl, by decide +kernel, by decide +kernel, by decide +kernel, by decide +kernel⟩
theorem in_X7_complete : Cond.instanceMethod yX7_complete ∈ gt := gt_4 (i := 34) rfl rfl
theorem se_X7_complete : Cond.selects RX7 yX7_complete yX7_complete ∈ gt := gt_0 (i := 28) rfl rfl
abbrev jX7_copy : Jt := (yX7_copy, cX7_copy, 3, (some .int))
theorem mk_X7_copy : Mk jX7_copy 2 := ⟨gt_4 (i := 118) rfl rfl, gt_1 (i := 7) rfl rfl, by decide +kernel, by decide +kernel, by decide +kernel, by decide +kernel⟩
theorem in_X7_copy : Cond.instanceMethod yX7_copy ∈ gt := gt_4 (i := 116) rfl rfl
theorem se_X7_copy : Cond.selects RX7 yX7_copy yX7_copy ∈ gt := gt_4 (i := 117) rfl rfl
abbrev jX7_countMarks : Jt := (yX7_countMarks, cX7_countMarks, 4, (some .int))
theorem mk_X7_countMarks : Mk jX7_countMarks 1 := ⟨gt_4 (i := 82) rfl rfl, gt_1 (i := 7) rfl rfl, by decide +kernel, by decide +kernel, by decide +kernel, by decide +kernel⟩
theorem in_X7_countMarks : Cond.instanceMethod yX7_countMarks ∈ gt := gt_4 (i := 81) rfl rfl
theorem se_X7_countMarks : Cond.selects RX7 yX7_countMarks yX7_countMarks ∈ gt := gt_0 (i := 34) rfl rfl
abbrev jX7_countStuck : Jt := (yX7_countStuck, cX7_countStuck, 4, (some .int))
theorem mk_X7_countStuck : Mk jX7_countStuck 1 := ⟨gt_4 (i := 74) rfl rfl, gt_1 (i := 7) rfl rfl, by decide +kernel, by decide +kernel, by decide +kernel, by decide +kernel⟩
theorem in_X7_countStuck : Cond.instanceMethod yX7_countStuck ∈ gt := gt_4 (i := 73) rfl rfl
theorem se_X7_countStuck : Cond.selects RX7 yX7_countStuck yX7_countStuck ∈ gt := gt_0 (i := 33) rfl rfl
abbrev jX7_countZeros : Jt := (yX7_countZeros, cX7_countZeros, 4, (some .int))
theorem mk_X7_countZeros : Mk jX7_countZeros 1 := ⟨gt_4 (i := 130) rfl rfl, gt_1 (i := 7) rfl rfl, by decide +kernel, by decide +kernel, by decide +kernel, by decide +kernel⟩
theorem in_X7_countZeros : Cond.instanceMethod yX7_countZeros ∈ gt := gt_4 (i := 129) rfl rfl
theorem se_X7_countZeros : Cond.selects RX7 yX7_countZeros yX7_countZeros ∈ gt := gt_0 (i := 39) rfl rfl
abbrev jX7_erase : Jt := (yX7_erase, cX7_erase, 2, (some .int))
theorem mk_X7_erase : Mk jX7_erase 1 := ⟨gt_4 (i := 54) rfl rfl, gt_1 (i := 7) rfl rfl, by decide +kernel, by decide +kernel, by decide +kernel, by decide +kernel⟩
theorem in_X7_erase : Cond.instanceMethod yX7_erase ∈ gt := gt_4 (i := 52) rfl rfl
theorem se_X7_erase : Cond.selects RX7 yX7_erase yX7_erase ∈ gt := gt_4 (i := 53) rfl rfl
abbrev jX7_exponent : Jt := (yX7_exponent, cX7_exponent, 3, (some .int))
theorem mk_X7_exponent : Mk jX7_exponent 1 := ⟨gt_3 (i := 212) rfl rfl, gt_1 (i := 7) rfl rfl, by decide +kernel, by decide +kernel, by decide +kernel, by decide +kernel⟩
theorem in_X7_exponent : Cond.instanceMethod yX7_exponent ∈ gt := gt_3 (i := 211) rfl rfl
theorem se_X7_exponent : Cond.selects RX7 yX7_exponent yX7_exponent ∈ gt := gt_0 (i := 23) rfl rfl
abbrev jX7_fill : Jt := (yX7_fill, cX7_fill, 6, (some .int))
theorem mk_X7_fill : Mk jX7_fill 2 := ⟨gt_4 (i := 22) rfl rfl, gt_1 (i := 7) rfl rfl, by decide +kernel, by decide +kernel, by decide +kernel, by decide +kernel⟩
theorem in_X7_fill : Cond.instanceMethod yX7_fill ∈ gt := gt_4 (i := 20) rfl rfl
theorem se_X7_fill : Cond.selects RX7 yX7_fill yX7_fill ∈ gt := gt_4 (i := 21) rfl rfl
abbrev jX7_flip : Jt := (yX7_flip, cX7_flip, 4, (some .int))
theorem mk_X7_flip : Mk jX7_flip 2 := ⟨gt_4 (i := 62) rfl rfl, gt_1 (i := 7) rfl rfl, by decide +kernel, by decide +kernel, by decide +kernel, by decide +kernel⟩
theorem in_X7_flip : Cond.instanceMethod yX7_flip ∈ gt := gt_4 (i := 60) rfl rfl
theorem se_X7_flip : Cond.selects RX7 yX7_flip yX7_flip ∈ gt := gt_4 (i := 61) rfl rfl
abbrev jX7_generator : Jt := (yX7_generator, cX7_generator, 2, (some .int))
theorem mk_X7_generator : Mk jX7_generator 1 := ⟨gt_4 (i := 14) rfl rfl, gt_1 (i := 7) rfl rfl, by decide +kernel, by decide +kernel, by decide +kernel, by decide +kernel⟩
theorem in_X7_generator : Cond.instanceMethod yX7_generator ∈ gt := gt_4 (i := 12) rfl rfl
theorem se_X7_generator : Cond.selects RX7 yX7_generator yX7_generator ∈ gt := gt_4 (i := 13) rfl rfl
abbrev jX7_generatorAt : Jt := (yX7_generatorAt, cX7_generatorAt, 5, (some .int))
theorem mk_X7_generatorAt : Mk jX7_generatorAt 2 := ⟨gt_3 (i := 208) rfl rfl, gt_1 (i := 7) rfl rfl, by decide +kernel, by decide +kernel, by decide +kernel, by decide +kernel⟩
theorem in_X7_generatorAt : Cond.instanceMethod yX7_generatorAt ∈ gt := gt_3 (i := 207) rfl rfl
theorem se_X7_generatorAt : Cond.selects RX7 yX7_generatorAt yX7_generatorAt ∈ gt := gt_0 (i := 22) rfl rfl
abbrev jX7_get : Jt := (yX7_get, cX7_get, 2, (some .int))
theorem mk_X7_get : Mk jX7_get 1 := ⟨gt_4 (i := 27) rfl rfl, gt_1 (i := 7) rfl rfl, by decide +kernel, by decide +kernel, by decide +kernel, by decide +kernel⟩
theorem in_X7_get : Cond.instanceMethod yX7_get ∈ gt := gt_4 (i := 25) rfl rfl
theorem se_X7_get : Cond.selects RX7 yX7_get yX7_get ∈ gt := gt_4 (i := 26) rfl rfl
abbrev jX7_init : Jt := (yX7_init, cX7_init, 1, none)
theorem mk_X7_init : Mk jX7_init 0 := ⟨gt_3 (i := 98) rfl rfl, gt_1 (i := 7) rfl rfl, by decide +kernel, by decide +kernel, by decide +kernel, by decide +kernel⟩
theorem in_X7_init : Cond.instanceMethod yX7_init ∈ gt := gt_3 (i := 97) rfl rfl
abbrev jX7_inverse : Jt := (yX7_inverse, cX7_inverse, 2, (some .int))
theorem mk_X7_inverse : Mk jX7_inverse 1 := ⟨gt_3 (i := 232) rfl rfl, gt_1 (i := 7) rfl rfl, by decide +kernel, by decide +kernel, by decide +kernel, by decide +kernel⟩
theorem in_X7_inverse : Cond.instanceMethod yX7_inverse ∈ gt := gt_3 (i := 230) rfl rfl
theorem se_X7_inverse : Cond.selects RX7 yX7_inverse yX7_inverse ∈ gt := gt_3 (i := 231) rfl rfl
abbrev jX7_isBit : Jt := (yX7_isBit, cX7_isBit, 3, (some .boolean))
theorem mk_X7_isBit : Mk jX7_isBit 2 := ⟨gt_4 (i := 66) rfl rfl, gt_1 (i := 7) rfl rfl, by decide +kernel, by decide +kernel, by decide +kernel, by decide +kernel⟩
theorem in_X7_isBit : Cond.instanceMethod yX7_isBit ∈ gt := gt_4 (i := 65) rfl rfl
theorem se_X7_isBit : Cond.selects RX7 yX7_isBit yX7_isBit ∈ gt := gt_0 (i := 32) rfl rfl
abbrev jX7_isMended : Jt := (yX7_isMended, cX7_isMended, 6, (some .boolean))
theorem mk_X7_isMended : Mk jX7_isMended 0 := ⟨gt_4 (i := 98) rfl rfl, gt_1 (i := 7) rfl rfl, by decide +kernel, by decide +kernel, by decide +kernel, by decide +kernel⟩
theorem in_X7_isMended : Cond.instanceMethod yX7_isMended ∈ gt := gt_4 (i := 97) rfl rfl
theorem se_X7_isMended : Cond.selects RX7 yX7_isMended yX7_isMended ∈ gt := gt_0 (i := 36) rfl rfl
abbrev jX7_isNumber : Jt := (yX7_isNumber, cX7_isNumber, 2, (some .boolean))
theorem mk_X7_isNumber : Mk jX7_isNumber 1 := ⟨gt_3 (i := 228) rfl rfl, gt_1 (i := 7) rfl rfl, by decide +kernel, by decide +kernel, by decide +kernel, by decide +kernel⟩
theorem in_X7_isNumber : Cond.instanceMethod yX7_isNumber ∈ gt := gt_3 (i := 227) rfl rfl
theorem se_X7_isNumber : Cond.selects RX7 yX7_isNumber yX7_isNumber ∈ gt := gt_0 (i := 26) rfl rfl
abbrev jX7_isPage : Jt := (yX7_isPage, cX7_isPage, 1, (some .boolean))
theorem mk_X7_isPage : Mk jX7_isPage 1 := ⟨gt_4 (i := 42) rfl rfl, gt_1 (i := 7) rfl rfl, by decide +kernel, by decide +kernel, by decide +kernel, by decide +kernel⟩
theorem st_X7_isPage : Cond.static yX7_isPage ∈ gt := gt_4 (i := 41) rfl rfl
abbrev jX7_isRight : Jt := (yX7_isRight, cX7_isRight, 5, (some .boolean))
theorem mk_X7_isRight : Mk jX7_isRight 0 := ⟨gt_4 (i := 102) rfl rfl, gt_1 (i := 7) rfl rfl, by decide +kernel, by decide +kernel, by decide +kernel, by decide +kernel⟩
theorem in_X7_isRight : Cond.instanceMethod yX7_isRight ∈ gt := gt_4 (i := 101) rfl rfl
theorem se_X7_isRight : Cond.selects RX7 yX7_isRight yX7_isRight ∈ gt := gt_0 (i := 37) rfl rfl
abbrev jX7_log : Jt := (yX7_log, cX7_log, 2, (some .int))
theorem mk_X7_log : Mk jX7_log 1 := ⟨gt_4 (i := 6) rfl rfl, gt_1 (i := 7) rfl rfl, by decide +kernel, by decide +kernel, by decide +kernel, by decide +kernel⟩
theorem in_X7_log : Cond.instanceMethod yX7_log ∈ gt := gt_4 (i := 4) rfl rfl
theorem se_X7_log : Cond.selects RX7 yX7_log yX7_log ∈ gt := gt_4 (i := 5) rfl rfl
abbrev jX7_makeField : Jt := (yX7_makeField, cX7_makeField, 4, none)
theorem mk_X7_makeField : Mk jX7_makeField 1 := ⟨gt_3 (i := 194) rfl rfl, gt_1 (i := 7) rfl rfl, by decide +kernel, by decide +kernel, by decide +kernel, by decide +kernel⟩
theorem in_X7_makeField : Cond.instanceMethod yX7_makeField ∈ gt := gt_3 (i := 193) rfl rfl
theorem se_X7_makeField : Cond.selects RX7 yX7_makeField yX7_makeField ∈ gt := gt_0 (i := 20) rfl rfl
abbrev jX7_makeGenerator : Jt := (yX7_makeGenerator, cX7_makeGenerator, 8, (some .int))
theorem mk_X7_makeGenerator : Mk jX7_makeGenerator 1 := ⟨gt_3 (i := 204) rfl rfl, gt_1 (i := 7) rfl rfl, by decide +kernel, by decide +kernel, by decide +kernel, by decide +kernel⟩
theorem in_X7_makeGenerator : Cond.instanceMethod yX7_makeGenerator ∈ gt := gt_3 (i := 203) rfl rfl
theorem se_X7_makeGenerator : Cond.selects RX7 yX7_makeGenerator yX7_makeGenerator ∈ gt := gt_0 (i := 21) rfl rfl
abbrev jX7_mark : Jt := (yX7_mark, cX7_mark, 4, (some .int))
theorem mk_X7_mark : Mk jX7_mark 3 := ⟨gt_4 (i := 78) rfl rfl, gt_1 (i := 7) rfl rfl, by decide +kernel, by decide +kernel, by decide +kernel, by decide +kernel⟩
theorem in_X7_mark : Cond.instanceMethod yX7_mark ∈ gt := gt_4 (i := 76) rfl rfl
theorem se_X7_mark : Cond.selects RX7 yX7_mark yX7_mark ∈ gt := gt_4 (i := 77) rfl rfl
abbrev jX7_mend : Jt := (yX7_mend, cX7_mend, 9, (some .int))
theorem mk_X7_mend : Mk jX7_mend 1 := ⟨gt_4 (i := 94) rfl rfl, gt_1 (i := 7) rfl rfl, by decide +kernel, by decide +kernel, by decide +kernel, by decide +kernel⟩
theorem in_X7_mend : Cond.instanceMethod yX7_mend ∈ gt := gt_4 (i := 93) rfl rfl
theorem se_X7_mend : Cond.selects RX7 yX7_mend yX7_mend ∈ gt := gt_0 (i := 35) rfl rfl
abbrev jX7_minimal : Jt := (yX7_minimal, cX7_minimal, 2, (some .int))
theorem mk_X7_minimal : Mk jX7_minimal 1 := ⟨gt_4 (i := 10) rfl rfl, gt_1 (i := 7) rfl rfl, by decide +kernel, by decide +kernel, by decide +kernel, by decide +kernel⟩
theorem in_X7_minimal : Cond.instanceMethod yX7_minimal ∈ gt := gt_4 (i := 8) rfl rfl
theorem se_X7_minimal : Cond.selects RX7 yX7_minimal yX7_minimal ∈ gt := gt_4 (i := 9) rfl rfl
abbrev jX7_minimalOf : Jt := (yX7_minimalOf, cX7_minimalOf, 7, (some .int))
theorem mk_X7_minimalOf : Mk jX7_minimalOf 1 := ⟨gt_3 (i := 216) rfl rfl, gt_1 (i := 7) rfl rfl, by decide +kernel, by decide +kernel, by decide +kernel, by decide +kernel⟩
theorem in_X7_minimalOf : Cond.instanceMethod yX7_minimalOf ∈ gt := gt_3 (i := 215) rfl rfl
theorem se_X7_minimalOf : Cond.selects RX7 yX7_minimalOf yX7_minimalOf ∈ gt := gt_0 (i := 24) rfl rfl
abbrev jX7_open : Jt := (yX7_open, cX7_open, 7, (some .int))
theorem mk_X7_open : Mk jX7_open 3 := ⟨gt_3 (i := 187) rfl rfl, gt_1 (i := 7) rfl rfl, by decide +kernel, by decide +kernel, by decide +kernel, by decide +kernel⟩
theorem in_X7_open : Cond.instanceMethod yX7_open ∈ gt := gt_3 (i := 185) rfl rfl
theorem se_X7_open : Cond.selects RX7 yX7_open yX7_open ∈ gt := gt_3 (i := 186) rfl rfl
abbrev jX7_over : Jt := (yX7_over, cX7_over, 2, (some .int))
theorem mk_X7_over : Mk jX7_over 1 := ⟨gt_3 (i := 236) rfl rfl, gt_1 (i := 7) rfl rfl, by decide +kernel, by decide +kernel, by decide +kernel, by decide +kernel⟩
theorem in_X7_over : Cond.instanceMethod yX7_over ∈ gt := gt_3 (i := 235) rfl rfl
theorem se_X7_over : Cond.selects RX7 yX7_over yX7_over ∈ gt := gt_0 (i := 27) rfl rfl
abbrev jX7_polynomial : Jt := (yX7_polynomial, cX7_polynomial, 1, (some .int))
theorem mk_X7_polynomial : Mk jX7_polynomial 1 := ⟨gt_3 (i := 200) rfl rfl, gt_1 (i := 7) rfl rfl, by decide +kernel, by decide +kernel, by decide +kernel, by decide +kernel⟩
theorem st_X7_polynomial : Cond.static yX7_polynomial ∈ gt := gt_3 (i := 199) rfl rfl
abbrev jX7_power : Jt := (yX7_power, cX7_power, 2, (some .int))
theorem mk_X7_power : Mk jX7_power 1 := ⟨gt_4 (i := 0) rfl rfl, gt_1 (i := 7) rfl rfl, by decide +kernel, by decide +kernel, by decide +kernel, by decide +kernel⟩
theorem in_X7_power : Cond.instanceMethod yX7_power ∈ gt := gt_3 (i := 238) rfl rfl
theorem se_X7_power : Cond.selects RX7 yX7_power yX7_power ∈ gt := gt_3 (i := 239) rfl rfl
abbrev jX7_product : Jt := (yX7_product, cX7_product, 5, (some .int))
theorem mk_X7_product : Mk jX7_product 3 := ⟨gt_3 (i := 197) rfl rfl, gt_1 (i := 7) rfl rfl, by decide +kernel, by decide +kernel, by decide +kernel, by decide +kernel⟩
theorem st_X7_product : Cond.static yX7_product ∈ gt := gt_3 (i := 196) rfl rfl
abbrev jX7_program : Jt := (yX7_program, cX7_program, 5, (some .int))
theorem mk_X7_program : Mk jX7_program 1 := ⟨gt_4 (i := 46) rfl rfl, gt_1 (i := 7) rfl rfl, by decide +kernel, by decide +kernel, by decide +kernel, by decide +kernel⟩
theorem in_X7_program : Cond.instanceMethod yX7_program ∈ gt := gt_4 (i := 45) rfl rfl
theorem se_X7_program : Cond.selects RX7 yX7_program yX7_program ∈ gt := gt_0 (i := 29) rfl rfl
abbrev jX7_put : Jt := (yX7_put, cX7_put, 4, (some .int))
theorem mk_X7_put : Mk jX7_put 2 := ⟨gt_4 (i := 18) rfl rfl, gt_1 (i := 7) rfl rfl, by decide +kernel, by decide +kernel, by decide +kernel, by decide +kernel⟩
theorem in_X7_put : Cond.instanceMethod yX7_put ∈ gt := gt_4 (i := 16) rfl rfl
theorem se_X7_put : Cond.selects RX7 yX7_put yX7_put ∈ gt := gt_4 (i := 17) rfl rfl
abbrev jX7_read : Jt := (yX7_read, cX7_read, 4, (some .int))
theorem mk_X7_read : Mk jX7_read 1 := ⟨gt_4 (i := 90) rfl rfl, gt_1 (i := 7) rfl rfl, by decide +kernel, by decide +kernel, by decide +kernel, by decide +kernel⟩
theorem in_X7_read : Cond.instanceMethod yX7_read ∈ gt := gt_4 (i := 88) rfl rfl
theorem se_X7_read : Cond.selects RX7 yX7_read yX7_read ∈ gt := gt_4 (i := 89) rfl rfl
abbrev jX7_refresh : Jt := (yX7_refresh, cX7_refresh, 6, (some .int))
theorem mk_X7_refresh : Mk jX7_refresh 1 := ⟨gt_4 (i := 122) rfl rfl, gt_1 (i := 7) rfl rfl, by decide +kernel, by decide +kernel, by decide +kernel, by decide +kernel⟩
theorem in_X7_refresh : Cond.instanceMethod yX7_refresh ∈ gt := gt_4 (i := 120) rfl rfl
theorem se_X7_refresh : Cond.selects RX7 yX7_refresh yX7_refresh ∈ gt := gt_4 (i := 121) rfl rfl
abbrev jX7_set : Jt := (yX7_set, cX7_set, 3, none)
theorem mk_X7_set : Mk jX7_set 2 := ⟨gt_4 (i := 50) rfl rfl, gt_1 (i := 7) rfl rfl, by decide +kernel, by decide +kernel, by decide +kernel, by decide +kernel⟩
theorem in_X7_set : Cond.instanceMethod yX7_set ∈ gt := gt_4 (i := 49) rfl rfl
theorem se_X7_set : Cond.selects RX7 yX7_set yX7_set ∈ gt := gt_0 (i := 30) rfl rfl
abbrev jX7_solves : Jt := (yX7_solves, cX7_solves, 8, (some .boolean))
theorem mk_X7_solves : Mk jX7_solves 1 := ⟨gt_4 (i := 106) rfl rfl, gt_1 (i := 7) rfl rfl, by decide +kernel, by decide +kernel, by decide +kernel, by decide +kernel⟩
theorem in_X7_solves : Cond.instanceMethod yX7_solves ∈ gt := gt_4 (i := 105) rfl rfl
theorem se_X7_solves : Cond.selects RX7 yX7_solves yX7_solves ∈ gt := gt_0 (i := 38) rfl rfl
abbrev jX7_stick : Jt := (yX7_stick, cX7_stick, 5, (some .int))
theorem mk_X7_stick : Mk jX7_stick 3 := ⟨gt_4 (i := 70) rfl rfl, gt_1 (i := 7) rfl rfl, by decide +kernel, by decide +kernel, by decide +kernel, by decide +kernel⟩
theorem in_X7_stick : Cond.instanceMethod yX7_stick ∈ gt := gt_4 (i := 68) rfl rfl
theorem se_X7_stick : Cond.selects RX7 yX7_stick yX7_stick ∈ gt := gt_4 (i := 69) rfl rfl
abbrev jX7_syndrome : Jt := (yX7_syndrome, cX7_syndrome, 4, (some .int))
theorem mk_X7_syndrome : Mk jX7_syndrome 2 := ⟨gt_4 (i := 114) rfl rfl, gt_1 (i := 7) rfl rfl, by decide +kernel, by decide +kernel, by decide +kernel, by decide +kernel⟩
theorem in_X7_syndrome : Cond.instanceMethod yX7_syndrome ∈ gt := gt_4 (i := 112) rfl rfl
theorem se_X7_syndrome : Cond.selects RX7 yX7_syndrome yX7_syndrome ∈ gt := gt_4 (i := 113) rfl rfl
abbrev jX7_tail : Jt := (yX7_tail, cX7_tail, 2, (some .int))
theorem mk_X7_tail : Mk jX7_tail 1 := ⟨gt_4 (i := 31) rfl rfl, gt_1 (i := 7) rfl rfl, by decide +kernel, by decide +kernel, by decide +kernel, by decide +kernel⟩
theorem in_X7_tail : Cond.instanceMethod yX7_tail ∈ gt := gt_4 (i := 29) rfl rfl
theorem se_X7_tail : Cond.selects RX7 yX7_tail yX7_tail ∈ gt := gt_4 (i := 30) rfl rfl
abbrev jX7_times : Jt := (yX7_times, cX7_times, 3, (some .int))
theorem mk_X7_times : Mk jX7_times 2 := ⟨gt_3 (i := 224) rfl rfl, gt_1 (i := 7) rfl rfl, by decide +kernel, by decide +kernel, by decide +kernel, by decide +kernel⟩
theorem in_X7_times : Cond.instanceMethod yX7_times ∈ gt := gt_3 (i := 222) rfl rfl
theorem se_X7_times : Cond.selects RX7 yX7_times yX7_times ∈ gt := gt_3 (i := 223) rfl rfl
abbrev jX7_told : Jt := (yX7_told, cX7_told, 6, (some .int))
theorem mk_X7_told : Mk jX7_told 2 := ⟨gt_4 (i := 126) rfl rfl, gt_1 (i := 7) rfl rfl, by decide +kernel, by decide +kernel, by decide +kernel, by decide +kernel⟩
theorem in_X7_told : Cond.instanceMethod yX7_told ∈ gt := gt_4 (i := 124) rfl rfl
theorem se_X7_told : Cond.selects RX7 yX7_told yX7_told ∈ gt := gt_4 (i := 125) rfl rfl
abbrev jX7_turned : Jt := (yX7_turned, cX7_turned, 2, (some .int))
theorem mk_X7_turned : Mk jX7_turned 1 := ⟨gt_4 (i := 110) rfl rfl, gt_1 (i := 7) rfl rfl, by decide +kernel, by decide +kernel, by decide +kernel, by decide +kernel⟩
theorem in_X7_turned : Cond.instanceMethod yX7_turned ∈ gt := gt_4 (i := 108) rfl rfl
theorem se_X7_turned : Cond.selects RX7 yX7_turned yX7_turned ∈ gt := gt_4 (i := 109) rfl rfl
abbrev jX7_wipe : Jt := (yX7_wipe, cX7_wipe, 3, none)
theorem mk_X7_wipe : Mk jX7_wipe 1 := ⟨gt_4 (i := 58) rfl rfl, gt_1 (i := 7) rfl rfl, by decide +kernel, by decide +kernel, by decide +kernel, by decide +kernel⟩
theorem in_X7_wipe : Cond.instanceMethod yX7_wipe ∈ gt := gt_4 (i := 57) rfl rfl
theorem se_X7_wipe : Cond.selects RX7 yX7_wipe yX7_wipe ∈ gt := gt_0 (i := 31) rfl rfl
abbrev jX7_within : Jt := (yX7_within, cX7_within, 3, (some .boolean))
theorem mk_X7_within : Mk jX7_within 3 := ⟨gt_3 (i := 190) rfl rfl, gt_1 (i := 7) rfl rfl, by decide +kernel, by decide +kernel, by decide +kernel, by decide +kernel⟩
theorem st_X7_within : Cond.static yX7_within ∈ gt := gt_3 (i := 189) rfl rfl
abbrev jX7_write : Jt := (yX7_write, cX7_write, 2, (some .int))
theorem mk_X7_write : Mk jX7_write 1 := ⟨gt_4 (i := 39) rfl rfl, gt_1 (i := 7) rfl rfl, by decide +kernel, by decide +kernel, by decide +kernel, by decide +kernel⟩
theorem in_X7_write : Cond.instanceMethod yX7_write ∈ gt := gt_4 (i := 37) rfl rfl
theorem se_X7_write : Cond.selects RX7 yX7_write yX7_write ∈ gt := gt_4 (i := 38) rfl rfl
