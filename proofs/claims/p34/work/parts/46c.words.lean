/-! the words of the law's calls -/
theorem lq_138 : jm_ms[138]? = some (⟨"OneWayTown", "feed", "(IIIII)I"⟩, prog_1_method_2_code, 6, (some .int), 11, 0) := by rfl
theorem ln_138 : jm_na[138]? = some 5 := by rfl
theorem lk_138 : Cond.methodLink R_law 13 ⟨"OneWayTown", "feed", "(IIIII)I"⟩ ∈ jm_T := jm_T_mem (i := 617) (by decide +kernel) rfl
theorem lz_138 : Cond.selects "OneWayTown" ⟨"OneWayTown", "feed", "(IIIII)I"⟩ ⟨"OneWayTown", "feed", "(IIIII)I"⟩ ∈ jm_T := jm_T_mem (i := 619) (by decide +kernel) rfl
theorem lq_315 : jm_ms[315]? = some (⟨"OneWayTownModel", "feed", "(IIIII)I"⟩, prog_14_method_131_code, 8, (some .int), 12, 0) := by rfl
theorem ln_315 : jm_na[315]? = some 5 := by rfl
theorem lk_315 : Cond.methodLink R_law 17 ⟨"OneWayTownModel", "feed", "(IIIII)I"⟩ ∈ jm_T := jm_T_mem (i := 2153) (by decide +kernel) rfl
theorem lz_315 : Cond.selects "OneWayTownModel" ⟨"OneWayTownModel", "feed", "(IIIII)I"⟩ ⟨"OneWayTownModel", "feed", "(IIIII)I"⟩ ∈ jm_T := jm_T_mem (i := 2155) (by decide +kernel) rfl
theorem lq_139 : jm_ms[139]? = some (⟨"OneWayTown", "end", "(I)I"⟩, prog_1_method_3_code, 2, (some .int), 11, 0) := by rfl
theorem ln_139 : jm_na[139]? = some 1 := by rfl
theorem lk_139 : Cond.methodLink R_law 18 ⟨"OneWayTown", "end", "(I)I"⟩ ∈ jm_T := jm_T_mem (i := 625) (by decide +kernel) rfl
theorem lz_139 : Cond.selects "OneWayTown" ⟨"OneWayTown", "end", "(I)I"⟩ ⟨"OneWayTown", "end", "(I)I"⟩ ∈ jm_T := jm_T_mem (i := 627) (by decide +kernel) rfl
theorem lq_316 : jm_ms[316]? = some (⟨"OneWayTownModel", "end", "(I)I"⟩, prog_14_method_132_code, 2, (some .int), 12, 0) := by rfl
theorem ln_316 : jm_na[316]? = some 1 := by rfl
theorem lk_316 : Cond.methodLink R_law 22 ⟨"OneWayTownModel", "end", "(I)I"⟩ ∈ jm_T := jm_T_mem (i := 2157) (by decide +kernel) rfl
theorem lz_316 : Cond.selects "OneWayTownModel" ⟨"OneWayTownModel", "end", "(I)I"⟩ ⟨"OneWayTownModel", "end", "(I)I"⟩ ∈ jm_T := jm_T_mem (i := 2159) (by decide +kernel) rfl
theorem lq_140 : jm_ms[140]? = some (⟨"OneWayTown", "town", "()I"⟩, prog_1_method_4_code, 2, (some .int), 11, 0) := by rfl
theorem ln_140 : jm_na[140]? = some 0 := by rfl
theorem lk_140 : Cond.methodLink R_law 23 ⟨"OneWayTown", "town", "()I"⟩ ∈ jm_T := jm_T_mem (i := 629) (by decide +kernel) rfl
theorem lz_140 : Cond.selects "OneWayTown" ⟨"OneWayTown", "town", "()I"⟩ ⟨"OneWayTown", "town", "()I"⟩ ∈ jm_T := jm_T_mem (i := 631) (by decide +kernel) rfl
theorem lq_190 : jm_ms[190]? = some (⟨"OneWayTownModel", "town", "()I"⟩, prog_14_method_15_code, 2, (some .int), 12, 0) := by rfl
theorem ln_190 : jm_na[190]? = some 0 := by rfl
theorem lk_190 : Cond.methodLink R_law 27 ⟨"OneWayTownModel", "town", "()I"⟩ ∈ jm_T := jm_T_mem (i := 1651) (by decide +kernel) rfl
theorem lz_190 : Cond.selects "OneWayTownModel" ⟨"OneWayTownModel", "town", "()I"⟩ ⟨"OneWayTownModel", "town", "()I"⟩ ∈ jm_T := jm_T_mem (i := 1653) (by decide +kernel) rfl
theorem lq_142 : jm_ms[142]? = some (⟨"OneWayTown", "fault", "(I)I"⟩, prog_1_method_5_code, 2, (some .int), 11, 0) := by rfl
theorem ln_142 : jm_na[142]? = some 1 := by rfl
theorem lk_142 : Cond.methodLink R_law 28 ⟨"OneWayTown", "fault", "(I)I"⟩ ∈ jm_T := jm_T_mem (i := 820) (by decide +kernel) rfl
theorem lz_142 : Cond.selects "OneWayTown" ⟨"OneWayTown", "fault", "(I)I"⟩ ⟨"OneWayTown", "fault", "(I)I"⟩ ∈ jm_T := jm_T_mem (i := 822) (by decide +kernel) rfl
theorem lq_211 : jm_ms[211]? = some (⟨"OneWayTownModel", "fault", "(I)I"⟩, prog_14_method_24_code, 2, (some .int), 12, 0) := by rfl
theorem ln_211 : jm_na[211]? = some 1 := by rfl
theorem lk_211 : Cond.methodLink R_law 31 ⟨"OneWayTownModel", "fault", "(I)I"⟩ ∈ jm_T := jm_T_mem (i := 1739) (by decide +kernel) rfl
theorem lz_211 : Cond.selects "OneWayTownModel" ⟨"OneWayTownModel", "fault", "(I)I"⟩ ⟨"OneWayTownModel", "fault", "(I)I"⟩ ∈ jm_T := jm_T_mem (i := 1741) (by decide +kernel) rfl
theorem lq_143 : jm_ms[143]? = some (⟨"OneWayTown", "house", "(II)I"⟩, prog_1_method_6_code, 3, (some .int), 11, 0) := by rfl
theorem ln_143 : jm_na[143]? = some 2 := by rfl
theorem lk_143 : Cond.methodLink R_law 32 ⟨"OneWayTown", "house", "(II)I"⟩ ∈ jm_T := jm_T_mem (i := 824) (by decide +kernel) rfl
theorem lz_143 : Cond.selects "OneWayTown" ⟨"OneWayTown", "house", "(II)I"⟩ ⟨"OneWayTown", "house", "(II)I"⟩ ∈ jm_T := jm_T_mem (i := 826) (by decide +kernel) rfl
theorem lq_212 : jm_ms[212]? = some (⟨"OneWayTownModel", "house", "(II)I"⟩, prog_14_method_40_code, 3, (some .int), 12, 0) := by rfl
theorem ln_212 : jm_na[212]? = some 2 := by rfl
theorem lk_212 : Cond.methodLink R_law 36 ⟨"OneWayTownModel", "house", "(II)I"⟩ ∈ jm_T := jm_T_mem (i := 1743) (by decide +kernel) rfl
theorem lz_212 : Cond.selects "OneWayTownModel" ⟨"OneWayTownModel", "house", "(II)I"⟩ ⟨"OneWayTownModel", "house", "(II)I"⟩ ∈ jm_T := jm_T_mem (i := 1745) (by decide +kernel) rfl
theorem lq_144 : jm_ms[144]? = some (⟨"OneWayTown", "way", "(II)I"⟩, prog_1_method_7_code, 3, (some .int), 11, 0) := by rfl
theorem ln_144 : jm_na[144]? = some 2 := by rfl
theorem lk_144 : Cond.methodLink R_law 37 ⟨"OneWayTown", "way", "(II)I"⟩ ∈ jm_T := jm_T_mem (i := 836) (by decide +kernel) rfl
theorem lz_144 : Cond.selects "OneWayTown" ⟨"OneWayTown", "way", "(II)I"⟩ ⟨"OneWayTown", "way", "(II)I"⟩ ∈ jm_T := jm_T_mem (i := 838) (by decide +kernel) rfl
theorem lq_221 : jm_ms[221]? = some (⟨"OneWayTownModel", "way", "(II)I"⟩, prog_14_method_43_code, 6, (some .int), 12, 0) := by rfl
theorem ln_221 : jm_na[221]? = some 2 := by rfl
theorem lk_221 : Cond.methodLink R_law 40 ⟨"OneWayTownModel", "way", "(II)I"⟩ ∈ jm_T := jm_T_mem (i := 1778) (by decide +kernel) rfl
theorem lz_221 : Cond.selects "OneWayTownModel" ⟨"OneWayTownModel", "way", "(II)I"⟩ ⟨"OneWayTownModel", "way", "(II)I"⟩ ∈ jm_T := jm_T_mem (i := 1780) (by decide +kernel) rfl
theorem lq_145 : jm_ms[145]? = some (⟨"OneWayTown", "far", "(I)I"⟩, prog_1_method_8_code, 2, (some .int), 11, 0) := by rfl
theorem ln_145 : jm_na[145]? = some 1 := by rfl
theorem lk_145 : Cond.methodLink R_law 41 ⟨"OneWayTown", "far", "(I)I"⟩ ∈ jm_T := jm_T_mem (i := 852) (by decide +kernel) rfl
theorem lz_145 : Cond.selects "OneWayTown" ⟨"OneWayTown", "far", "(I)I"⟩ ⟨"OneWayTown", "far", "(I)I"⟩ ∈ jm_T := jm_T_mem (i := 854) (by decide +kernel) rfl
theorem lq_226 : jm_ms[226]? = some (⟨"OneWayTownModel", "far", "(I)I"⟩, prog_14_method_44_code, 2, (some .int), 12, 0) := by rfl
theorem ln_226 : jm_na[226]? = some 1 := by rfl
theorem lk_226 : Cond.methodLink R_law 44 ⟨"OneWayTownModel", "far", "(I)I"⟩ ∈ jm_T := jm_T_mem (i := 1798) (by decide +kernel) rfl
theorem lz_226 : Cond.selects "OneWayTownModel" ⟨"OneWayTownModel", "far", "(I)I"⟩ ⟨"OneWayTownModel", "far", "(I)I"⟩ ∈ jm_T := jm_T_mem (i := 1800) (by decide +kernel) rfl
theorem lq_146 : jm_ms[146]? = some (⟨"OneWayTown", "farthest", "(I)I"⟩, prog_1_method_9_code, 4, (some .int), 11, 0) := by rfl
theorem ln_146 : jm_na[146]? = some 1 := by rfl
theorem lk_146 : Cond.methodLink R_law 45 ⟨"OneWayTown", "farthest", "(I)I"⟩ ∈ jm_T := jm_T_mem (i := 863) (by decide +kernel) rfl
theorem lz_146 : Cond.selects "OneWayTown" ⟨"OneWayTown", "farthest", "(I)I"⟩ ⟨"OneWayTown", "farthest", "(I)I"⟩ ∈ jm_T := jm_T_mem (i := 865) (by decide +kernel) rfl
theorem lq_228 : jm_ms[228]? = some (⟨"OneWayTownModel", "farthest", "(I)I"⟩, prog_14_method_45_code, 5, (some .int), 12, 0) := by rfl
theorem ln_228 : jm_na[228]? = some 1 := by rfl
theorem lk_228 : Cond.methodLink R_law 48 ⟨"OneWayTownModel", "farthest", "(I)I"⟩ ∈ jm_T := jm_T_mem (i := 1806) (by decide +kernel) rfl
theorem lz_228 : Cond.selects "OneWayTownModel" ⟨"OneWayTownModel", "farthest", "(I)I"⟩ ⟨"OneWayTownModel", "farthest", "(I)I"⟩ ∈ jm_T := jm_T_mem (i := 1808) (by decide +kernel) rfl
theorem lq_147 : jm_ms[147]? = some (⟨"OneWayTown", "middle", "(I)I"⟩, prog_1_method_10_code, 4, (some .int), 11, 0) := by rfl
theorem ln_147 : jm_na[147]? = some 1 := by rfl
theorem lk_147 : Cond.methodLink R_law 49 ⟨"OneWayTown", "middle", "(I)I"⟩ ∈ jm_T := jm_T_mem (i := 880) (by decide +kernel) rfl
theorem lz_147 : Cond.selects "OneWayTown" ⟨"OneWayTown", "middle", "(I)I"⟩ ⟨"OneWayTown", "middle", "(I)I"⟩ ∈ jm_T := jm_T_mem (i := 882) (by decide +kernel) rfl
theorem lq_229 : jm_ms[229]? = some (⟨"OneWayTownModel", "middle", "(I)I"⟩, prog_14_method_49_code, 4, (some .int), 12, 0) := by rfl
theorem ln_229 : jm_na[229]? = some 1 := by rfl
theorem lk_229 : Cond.methodLink R_law 52 ⟨"OneWayTownModel", "middle", "(I)I"⟩ ∈ jm_T := jm_T_mem (i := 1810) (by decide +kernel) rfl
theorem lz_229 : Cond.selects "OneWayTownModel" ⟨"OneWayTownModel", "middle", "(I)I"⟩ ⟨"OneWayTownModel", "middle", "(I)I"⟩ ∈ jm_T := jm_T_mem (i := 1812) (by decide +kernel) rfl
theorem lq_148 : jm_ms[148]? = some (⟨"OneWayTown", "post", "(IZ)I"⟩, prog_1_method_11_code, 4, (some .int), 11, 0) := by rfl
theorem ln_148 : jm_na[148]? = some 2 := by rfl
theorem lk_148 : Cond.methodLink R_law 53 ⟨"OneWayTown", "post", "(IZ)I"⟩ ∈ jm_T := jm_T_mem (i := 904) (by decide +kernel) rfl
theorem lz_148 : Cond.selects "OneWayTown" ⟨"OneWayTown", "post", "(IZ)I"⟩ ⟨"OneWayTown", "post", "(IZ)I"⟩ ∈ jm_T := jm_T_mem (i := 906) (by decide +kernel) rfl
theorem lq_233 : jm_ms[233]? = some (⟨"OneWayTownModel", "post", "(IZ)I"⟩, prog_14_method_51_code, 3, (some .int), 12, 0) := by rfl
theorem ln_233 : jm_na[233]? = some 2 := by rfl
theorem lk_233 : Cond.methodLink R_law 57 ⟨"OneWayTownModel", "post", "(IZ)I"⟩ ∈ jm_T := jm_T_mem (i := 1826) (by decide +kernel) rfl
theorem lz_233 : Cond.selects "OneWayTownModel" ⟨"OneWayTownModel", "post", "(IZ)I"⟩ ⟨"OneWayTownModel", "post", "(IZ)I"⟩ ∈ jm_T := jm_T_mem (i := 1828) (by decide +kernel) rfl
theorem lq_151 : jm_ms[151]? = some (⟨"OneWayTown", "grow", "(III)I"⟩, prog_1_method_14_code, 5, (some .int), 11, 0) := by rfl
theorem ln_151 : jm_na[151]? = some 3 := by rfl
theorem lk_151 : Cond.methodLink R_law 58 ⟨"OneWayTown", "grow", "(III)I"⟩ ∈ jm_T := jm_T_mem (i := 938) (by decide +kernel) rfl
theorem lz_151 : Cond.selects "OneWayTown" ⟨"OneWayTown", "grow", "(III)I"⟩ ⟨"OneWayTown", "grow", "(III)I"⟩ ∈ jm_T := jm_T_mem (i := 940) (by decide +kernel) rfl
theorem lq_236 : jm_ms[236]? = some (⟨"OneWayTownModel", "grow", "(III)I"⟩, prog_14_method_56_code, 4, (some .int), 12, 0) := by rfl
theorem ln_236 : jm_na[236]? = some 3 := by rfl
theorem lk_236 : Cond.methodLink R_law 62 ⟨"OneWayTownModel", "grow", "(III)I"⟩ ∈ jm_T := jm_T_mem (i := 1838) (by decide +kernel) rfl
theorem lz_236 : Cond.selects "OneWayTownModel" ⟨"OneWayTownModel", "grow", "(III)I"⟩ ⟨"OneWayTownModel", "grow", "(III)I"⟩ ∈ jm_T := jm_T_mem (i := 1840) (by decide +kernel) rfl
theorem lq_153 : jm_ms[153]? = some (⟨"OneWayTown", "move", "(II)Z"⟩, prog_1_method_15_code, 3, (some .boolean), 11, 0) := by rfl
theorem ln_153 : jm_na[153]? = some 2 := by rfl
theorem lk_153 : Cond.methodLink R_law 63 ⟨"OneWayTown", "move", "(II)Z"⟩ ∈ jm_T := jm_T_mem (i := 951) (by decide +kernel) rfl
theorem lz_153 : Cond.selects "OneWayTown" ⟨"OneWayTown", "move", "(II)Z"⟩ ⟨"OneWayTown", "move", "(II)Z"⟩ ∈ jm_T := jm_T_mem (i := 953) (by decide +kernel) rfl
theorem lq_239 : jm_ms[239]? = some (⟨"OneWayTownModel", "move", "(II)Z"⟩, prog_14_method_58_code, 3, (some .boolean), 12, 0) := by rfl
theorem ln_239 : jm_na[239]? = some 2 := by rfl
theorem lk_239 : Cond.methodLink R_law 67 ⟨"OneWayTownModel", "move", "(II)Z"⟩ ∈ jm_T := jm_T_mem (i := 1850) (by decide +kernel) rfl
theorem lz_239 : Cond.selects "OneWayTownModel" ⟨"OneWayTownModel", "move", "(II)Z"⟩ ⟨"OneWayTownModel", "move", "(II)Z"⟩ ∈ jm_T := jm_T_mem (i := 1852) (by decide +kernel) rfl
theorem lq_154 : jm_ms[154]? = some (⟨"OneWayTown", "live", "(II)I"⟩, prog_1_method_16_code, 4, (some .int), 11, 0) := by rfl
theorem ln_154 : jm_na[154]? = some 2 := by rfl
theorem lk_154 : Cond.methodLink R_law 68 ⟨"OneWayTown", "live", "(II)I"⟩ ∈ jm_T := jm_T_mem (i := 956) (by decide +kernel) rfl
theorem lz_154 : Cond.selects "OneWayTown" ⟨"OneWayTown", "live", "(II)I"⟩ ⟨"OneWayTown", "live", "(II)I"⟩ ∈ jm_T := jm_T_mem (i := 958) (by decide +kernel) rfl
theorem lq_241 : jm_ms[241]? = some (⟨"OneWayTownModel", "live", "(II)I"⟩, prog_14_method_59_code, 4, (some .int), 12, 0) := by rfl
theorem ln_241 : jm_na[241]? = some 2 := by rfl
theorem lk_241 : Cond.methodLink R_law 71 ⟨"OneWayTownModel", "live", "(II)I"⟩ ∈ jm_T := jm_T_mem (i := 1858) (by decide +kernel) rfl
theorem lz_241 : Cond.selects "OneWayTownModel" ⟨"OneWayTownModel", "live", "(II)I"⟩ ⟨"OneWayTownModel", "live", "(II)I"⟩ ∈ jm_T := jm_T_mem (i := 1860) (by decide +kernel) rfl
theorem lq_155 : jm_ms[155]? = some (⟨"OneWayTown", "years", "(I)I"⟩, prog_1_method_17_code, 3, (some .int), 11, 0) := by rfl
theorem ln_155 : jm_na[155]? = some 1 := by rfl
theorem lk_155 : Cond.methodLink R_law 72 ⟨"OneWayTown", "years", "(I)I"⟩ ∈ jm_T := jm_T_mem (i := 960) (by decide +kernel) rfl
theorem lz_155 : Cond.selects "OneWayTown" ⟨"OneWayTown", "years", "(I)I"⟩ ⟨"OneWayTown", "years", "(I)I"⟩ ∈ jm_T := jm_T_mem (i := 962) (by decide +kernel) rfl
theorem lq_242 : jm_ms[242]? = some (⟨"OneWayTownModel", "years", "(I)I"⟩, prog_14_method_61_code, 3, (some .int), 12, 0) := by rfl
theorem ln_242 : jm_na[242]? = some 1 := by rfl
theorem lk_242 : Cond.methodLink R_law 75 ⟨"OneWayTownModel", "years", "(I)I"⟩ ∈ jm_T := jm_T_mem (i := 1862) (by decide +kernel) rfl
theorem lz_242 : Cond.selects "OneWayTownModel" ⟨"OneWayTownModel", "years", "(I)I"⟩ ⟨"OneWayTownModel", "years", "(I)I"⟩ ∈ jm_T := jm_T_mem (i := 1864) (by decide +kernel) rfl
theorem lq_157 : jm_ms[157]? = some (⟨"OneWayTown", "undo", "()Z"⟩, prog_1_method_19_code, 1, (some .boolean), 11, 0) := by rfl
theorem ln_157 : jm_na[157]? = some 0 := by rfl
theorem lk_157 : Cond.methodLink R_law 76 ⟨"OneWayTown", "undo", "()Z"⟩ ∈ jm_T := jm_T_mem (i := 1007) (by decide +kernel) rfl
theorem lz_157 : Cond.selects "OneWayTown" ⟨"OneWayTown", "undo", "()Z"⟩ ⟨"OneWayTown", "undo", "()Z"⟩ ∈ jm_T := jm_T_mem (i := 1009) (by decide +kernel) rfl
theorem lq_244 : jm_ms[244]? = some (⟨"OneWayTownModel", "undo", "()Z"⟩, prog_14_method_62_code, 1, (some .boolean), 12, 0) := by rfl
theorem ln_244 : jm_na[244]? = some 0 := by rfl
theorem lk_244 : Cond.methodLink R_law 80 ⟨"OneWayTownModel", "undo", "()Z"⟩ ∈ jm_T := jm_T_mem (i := 1870) (by decide +kernel) rfl
theorem lz_244 : Cond.selects "OneWayTownModel" ⟨"OneWayTownModel", "undo", "()Z"⟩ ⟨"OneWayTownModel", "undo", "()Z"⟩ ∈ jm_T := jm_T_mem (i := 1872) (by decide +kernel) rfl
theorem lq_158 : jm_ms[158]? = some (⟨"OneWayTown", "redo", "()Z"⟩, prog_1_method_20_code, 1, (some .boolean), 11, 0) := by rfl
theorem ln_158 : jm_na[158]? = some 0 := by rfl
theorem lk_158 : Cond.methodLink R_law 81 ⟨"OneWayTown", "redo", "()Z"⟩ ∈ jm_T := jm_T_mem (i := 1015) (by decide +kernel) rfl
theorem lz_158 : Cond.selects "OneWayTown" ⟨"OneWayTown", "redo", "()Z"⟩ ⟨"OneWayTown", "redo", "()Z"⟩ ∈ jm_T := jm_T_mem (i := 1017) (by decide +kernel) rfl
theorem lq_246 : jm_ms[246]? = some (⟨"OneWayTownModel", "redo", "()Z"⟩, prog_14_method_63_code, 1, (some .boolean), 12, 0) := by rfl
theorem ln_246 : jm_na[246]? = some 0 := by rfl
theorem lk_246 : Cond.methodLink R_law 84 ⟨"OneWayTownModel", "redo", "()Z"⟩ ∈ jm_T := jm_T_mem (i := 1878) (by decide +kernel) rfl
theorem lz_246 : Cond.selects "OneWayTownModel" ⟨"OneWayTownModel", "redo", "()Z"⟩ ⟨"OneWayTownModel", "redo", "()Z"⟩ ∈ jm_T := jm_T_mem (i := 1880) (by decide +kernel) rfl
theorem lq_162 : jm_ms[162]? = some (⟨"OneWayTown", "wardens", "(I)I"⟩, prog_1_method_23_code, 2, (some .int), 11, 0) := by rfl
theorem ln_162 : jm_na[162]? = some 1 := by rfl
theorem lk_162 : Cond.methodLink R_law 85 ⟨"OneWayTown", "wardens", "(I)I"⟩ ∈ jm_T := jm_T_mem (i := 1035) (by decide +kernel) rfl
theorem lz_162 : Cond.selects "OneWayTown" ⟨"OneWayTown", "wardens", "(I)I"⟩ ⟨"OneWayTown", "wardens", "(I)I"⟩ ∈ jm_T := jm_T_mem (i := 1037) (by decide +kernel) rfl
theorem lq_247 : jm_ms[247]? = some (⟨"OneWayTownModel", "wardens", "(I)I"⟩, prog_14_method_68_code, 2, (some .int), 12, 0) := by rfl
theorem ln_247 : jm_na[247]? = some 1 := by rfl
theorem lk_247 : Cond.methodLink R_law 88 ⟨"OneWayTownModel", "wardens", "(I)I"⟩ ∈ jm_T := jm_T_mem (i := 1882) (by decide +kernel) rfl
theorem lz_247 : Cond.selects "OneWayTownModel" ⟨"OneWayTownModel", "wardens", "(I)I"⟩ ⟨"OneWayTownModel", "wardens", "(I)I"⟩ ∈ jm_T := jm_T_mem (i := 1884) (by decide +kernel) rfl
theorem lq_163 : jm_ms[163]? = some (⟨"OneWayTown", "quiet", "()I"⟩, prog_1_method_24_code, 1, (some .int), 11, 0) := by rfl
theorem ln_163 : jm_na[163]? = some 0 := by rfl
theorem lk_163 : Cond.methodLink R_law 89 ⟨"OneWayTown", "quiet", "()I"⟩ ∈ jm_T := jm_T_mem (i := 1066) (by decide +kernel) rfl
theorem lz_163 : Cond.selects "OneWayTown" ⟨"OneWayTown", "quiet", "()I"⟩ ⟨"OneWayTown", "quiet", "()I"⟩ ∈ jm_T := jm_T_mem (i := 1068) (by decide +kernel) rfl
theorem lq_253 : jm_ms[253]? = some (⟨"OneWayTownModel", "quiet", "()I"⟩, prog_14_method_71_code, 4, (some .int), 12, 0) := by rfl
theorem ln_253 : jm_na[253]? = some 0 := by rfl
theorem lk_253 : Cond.methodLink R_law 92 ⟨"OneWayTownModel", "quiet", "()I"⟩ ∈ jm_T := jm_T_mem (i := 1904) (by decide +kernel) rfl
theorem lz_253 : Cond.selects "OneWayTownModel" ⟨"OneWayTownModel", "quiet", "()I"⟩ ⟨"OneWayTownModel", "quiet", "()I"⟩ ∈ jm_T := jm_T_mem (i := 1906) (by decide +kernel) rfl
theorem lq_164 : jm_ms[164]? = some (⟨"OneWayTown", "guards", "()I"⟩, prog_1_method_25_code, 1, (some .int), 11, 0) := by rfl
theorem ln_164 : jm_na[164]? = some 0 := by rfl
theorem lk_164 : Cond.methodLink R_law 93 ⟨"OneWayTown", "guards", "()I"⟩ ∈ jm_T := jm_T_mem (i := 1084) (by decide +kernel) rfl
theorem lz_164 : Cond.selects "OneWayTown" ⟨"OneWayTown", "guards", "()I"⟩ ⟨"OneWayTown", "guards", "()I"⟩ ∈ jm_T := jm_T_mem (i := 1086) (by decide +kernel) rfl
theorem lq_256 : jm_ms[256]? = some (⟨"OneWayTownModel", "guards", "()I"⟩, prog_14_method_72_code, 4, (some .int), 12, 0) := by rfl
theorem ln_256 : jm_na[256]? = some 0 := by rfl
theorem lk_256 : Cond.methodLink R_law 96 ⟨"OneWayTownModel", "guards", "()I"⟩ ∈ jm_T := jm_T_mem (i := 1916) (by decide +kernel) rfl
theorem lz_256 : Cond.selects "OneWayTownModel" ⟨"OneWayTownModel", "guards", "()I"⟩ ⟨"OneWayTownModel", "guards", "()I"⟩ ∈ jm_T := jm_T_mem (i := 1918) (by decide +kernel) rfl
theorem lq_169 : jm_ms[169]? = some (⟨"OneWayTown", "news", "(I)I"⟩, prog_1_method_29_code, 2, (some .int), 11, 0) := by rfl
theorem ln_169 : jm_na[169]? = some 1 := by rfl
theorem lk_169 : Cond.methodLink R_law 97 ⟨"OneWayTown", "news", "(I)I"⟩ ∈ jm_T := jm_T_mem (i := 1141) (by decide +kernel) rfl
theorem lz_169 : Cond.selects "OneWayTown" ⟨"OneWayTown", "news", "(I)I"⟩ ⟨"OneWayTown", "news", "(I)I"⟩ ∈ jm_T := jm_T_mem (i := 1143) (by decide +kernel) rfl
theorem lq_264 : jm_ms[264]? = some (⟨"OneWayTownModel", "news", "(I)I"⟩, prog_14_method_83_code, 2, (some .int), 12, 0) := by rfl
theorem ln_264 : jm_na[264]? = some 1 := by rfl
theorem lk_264 : Cond.methodLink R_law 100 ⟨"OneWayTownModel", "news", "(I)I"⟩ ∈ jm_T := jm_T_mem (i := 1948) (by decide +kernel) rfl
theorem lz_264 : Cond.selects "OneWayTownModel" ⟨"OneWayTownModel", "news", "(I)I"⟩ ⟨"OneWayTownModel", "news", "(I)I"⟩ ∈ jm_T := jm_T_mem (i := 1950) (by decide +kernel) rfl
theorem lq_170 : jm_ms[170]? = some (⟨"OneWayTown", "tidings", "(I)I"⟩, prog_1_method_30_code, 2, (some .int), 11, 0) := by rfl
theorem ln_170 : jm_na[170]? = some 1 := by rfl
theorem lk_170 : Cond.methodLink R_law 101 ⟨"OneWayTown", "tidings", "(I)I"⟩ ∈ jm_T := jm_T_mem (i := 1158) (by decide +kernel) rfl
theorem lz_170 : Cond.selects "OneWayTown" ⟨"OneWayTown", "tidings", "(I)I"⟩ ⟨"OneWayTown", "tidings", "(I)I"⟩ ∈ jm_T := jm_T_mem (i := 1160) (by decide +kernel) rfl
theorem lq_268 : jm_ms[268]? = some (⟨"OneWayTownModel", "tidings", "(I)I"⟩, prog_14_method_84_code, 2, (some .int), 12, 0) := by rfl
theorem ln_268 : jm_na[268]? = some 1 := by rfl
theorem lk_268 : Cond.methodLink R_law 104 ⟨"OneWayTownModel", "tidings", "(I)I"⟩ ∈ jm_T := jm_T_mem (i := 1964) (by decide +kernel) rfl
theorem lz_268 : Cond.selects "OneWayTownModel" ⟨"OneWayTownModel", "tidings", "(I)I"⟩ ⟨"OneWayTownModel", "tidings", "(I)I"⟩ ∈ jm_T := jm_T_mem (i := 1966) (by decide +kernel) rfl
theorem lq_165 : jm_ms[165]? = some (⟨"OneWayTown", "wells", "(I)I"⟩, prog_1_method_26_code, 3, (some .int), 11, 0) := by rfl
theorem ln_165 : jm_na[165]? = some 1 := by rfl
theorem lk_165 : Cond.methodLink R_law 105 ⟨"OneWayTown", "wells", "(I)I"⟩ ∈ jm_T := jm_T_mem (i := 1092) (by decide +kernel) rfl
theorem lz_165 : Cond.selects "OneWayTown" ⟨"OneWayTown", "wells", "(I)I"⟩ ⟨"OneWayTown", "wells", "(I)I"⟩ ∈ jm_T := jm_T_mem (i := 1094) (by decide +kernel) rfl
theorem lq_257 : jm_ms[257]? = some (⟨"OneWayTownModel", "wells", "(I)I"⟩, prog_14_method_73_code, 5, (some .int), 12, 0) := by rfl
theorem ln_257 : jm_na[257]? = some 1 := by rfl
theorem lk_257 : Cond.methodLink R_law 108 ⟨"OneWayTownModel", "wells", "(I)I"⟩ ∈ jm_T := jm_T_mem (i := 1920) (by decide +kernel) rfl
theorem lz_257 : Cond.selects "OneWayTownModel" ⟨"OneWayTownModel", "wells", "(I)I"⟩ ⟨"OneWayTownModel", "wells", "(I)I"⟩ ∈ jm_T := jm_T_mem (i := 1922) (by decide +kernel) rfl
theorem lq_167 : jm_ms[167]? = some (⟨"OneWayTown", "shops", "(I)I"⟩, prog_1_method_27_code, 2, (some .int), 11, 0) := by rfl
theorem ln_167 : jm_na[167]? = some 1 := by rfl
theorem lk_167 : Cond.methodLink R_law 109 ⟨"OneWayTown", "shops", "(I)I"⟩ ∈ jm_T := jm_T_mem (i := 1104) (by decide +kernel) rfl
theorem lz_167 : Cond.selects "OneWayTown" ⟨"OneWayTown", "shops", "(I)I"⟩ ⟨"OneWayTown", "shops", "(I)I"⟩ ∈ jm_T := jm_T_mem (i := 1106) (by decide +kernel) rfl
theorem lq_259 : jm_ms[259]? = some (⟨"OneWayTownModel", "shops", "(I)I"⟩, prog_14_method_76_code, 7, (some .int), 12, 0) := by rfl
theorem ln_259 : jm_na[259]? = some 1 := by rfl
theorem lk_259 : Cond.methodLink R_law 112 ⟨"OneWayTownModel", "shops", "(I)I"⟩ ∈ jm_T := jm_T_mem (i := 1928) (by decide +kernel) rfl
theorem lz_259 : Cond.selects "OneWayTownModel" ⟨"OneWayTownModel", "shops", "(I)I"⟩ ⟨"OneWayTownModel", "shops", "(I)I"⟩ ∈ jm_T := jm_T_mem (i := 1930) (by decide +kernel) rfl
theorem lq_168 : jm_ms[168]? = some (⟨"OneWayTown", "counted", "(I)I"⟩, prog_1_method_28_code, 2, (some .int), 11, 0) := by rfl
theorem ln_168 : jm_na[168]? = some 1 := by rfl
theorem lk_168 : Cond.methodLink R_law 113 ⟨"OneWayTown", "counted", "(I)I"⟩ ∈ jm_T := jm_T_mem (i := 1121) (by decide +kernel) rfl
theorem lz_168 : Cond.selects "OneWayTown" ⟨"OneWayTown", "counted", "(I)I"⟩ ⟨"OneWayTown", "counted", "(I)I"⟩ ∈ jm_T := jm_T_mem (i := 1123) (by decide +kernel) rfl
theorem lq_261 : jm_ms[261]? = some (⟨"OneWayTownModel", "counted", "(I)I"⟩, prog_14_method_79_code, 5, (some .int), 12, 0) := by rfl
theorem ln_261 : jm_na[261]? = some 1 := by rfl
theorem lk_261 : Cond.methodLink R_law 116 ⟨"OneWayTownModel", "counted", "(I)I"⟩ ∈ jm_T := jm_T_mem (i := 1936) (by decide +kernel) rfl
theorem lz_261 : Cond.selects "OneWayTownModel" ⟨"OneWayTownModel", "counted", "(I)I"⟩ ⟨"OneWayTownModel", "counted", "(I)I"⟩ ∈ jm_T := jm_T_mem (i := 1938) (by decide +kernel) rfl
theorem lq_149 : jm_ms[149]? = some (⟨"OneWayTown", "quarters", "(I)I"⟩, prog_1_method_12_code, 2, (some .int), 11, 0) := by rfl
theorem ln_149 : jm_na[149]? = some 1 := by rfl
theorem lk_149 : Cond.methodLink R_law 117 ⟨"OneWayTown", "quarters", "(I)I"⟩ ∈ jm_T := jm_T_mem (i := 912) (by decide +kernel) rfl
theorem lz_149 : Cond.selects "OneWayTown" ⟨"OneWayTown", "quarters", "(I)I"⟩ ⟨"OneWayTown", "quarters", "(I)I"⟩ ∈ jm_T := jm_T_mem (i := 914) (by decide +kernel) rfl
theorem lq_235 : jm_ms[235]? = some (⟨"OneWayTownModel", "quarters", "(I)I"⟩, prog_14_method_52_code, 3, (some .int), 12, 0) := by rfl
theorem ln_235 : jm_na[235]? = some 1 := by rfl
theorem lk_235 : Cond.methodLink R_law 120 ⟨"OneWayTownModel", "quarters", "(I)I"⟩ ∈ jm_T := jm_T_mem (i := 1834) (by decide +kernel) rfl
theorem lz_235 : Cond.selects "OneWayTownModel" ⟨"OneWayTownModel", "quarters", "(I)I"⟩ ⟨"OneWayTownModel", "quarters", "(I)I"⟩ ∈ jm_T := jm_T_mem (i := 1836) (by decide +kernel) rfl
theorem lq_171 : jm_ms[171]? = some (⟨"OneWayTown", "bestNews", "()I"⟩, prog_1_method_31_code, 5, (some .int), 11, 0) := by rfl
theorem ln_171 : jm_na[171]? = some 0 := by rfl
theorem lk_171 : Cond.methodLink R_law 121 ⟨"OneWayTown", "bestNews", "()I"⟩ ∈ jm_T := jm_T_mem (i := 1162) (by decide +kernel) rfl
theorem lz_171 : Cond.selects "OneWayTown" ⟨"OneWayTown", "bestNews", "()I"⟩ ⟨"OneWayTown", "bestNews", "()I"⟩ ∈ jm_T := jm_T_mem (i := 1164) (by decide +kernel) rfl
theorem lq_269 : jm_ms[269]? = some (⟨"OneWayTownModel", "bestNews", "()I"⟩, prog_14_method_85_code, 5, (some .int), 12, 0) := by rfl
theorem ln_269 : jm_na[269]? = some 0 := by rfl
theorem lk_269 : Cond.methodLink R_law 124 ⟨"OneWayTownModel", "bestNews", "()I"⟩ ∈ jm_T := jm_T_mem (i := 1968) (by decide +kernel) rfl
theorem lz_269 : Cond.selects "OneWayTownModel" ⟨"OneWayTownModel", "bestNews", "()I"⟩ ⟨"OneWayTownModel", "bestNews", "()I"⟩ ∈ jm_T := jm_T_mem (i := 1970) (by decide +kernel) rfl
theorem lq_172 : jm_ms[172]? = some (⟨"OneWayTown", "carts", "(I)I"⟩, prog_1_method_32_code, 3, (some .int), 11, 0) := by rfl
theorem ln_172 : jm_na[172]? = some 1 := by rfl
theorem lk_172 : Cond.methodLink R_law 125 ⟨"OneWayTown", "carts", "(I)I"⟩ ∈ jm_T := jm_T_mem (i := 1166) (by decide +kernel) rfl
theorem lz_172 : Cond.selects "OneWayTown" ⟨"OneWayTown", "carts", "(I)I"⟩ ⟨"OneWayTown", "carts", "(I)I"⟩ ∈ jm_T := jm_T_mem (i := 1168) (by decide +kernel) rfl
theorem lq_270 : jm_ms[270]? = some (⟨"OneWayTownModel", "carts", "(I)I"⟩, prog_14_method_91_code, 3, (some .int), 12, 0) := by rfl
theorem ln_270 : jm_na[270]? = some 1 := by rfl
theorem lk_270 : Cond.methodLink R_law 128 ⟨"OneWayTownModel", "carts", "(I)I"⟩ ∈ jm_T := jm_T_mem (i := 1972) (by decide +kernel) rfl
theorem lz_270 : Cond.selects "OneWayTownModel" ⟨"OneWayTownModel", "carts", "(I)I"⟩ ⟨"OneWayTownModel", "carts", "(I)I"⟩ ∈ jm_T := jm_T_mem (i := 1974) (by decide +kernel) rfl
theorem lq_173 : jm_ms[173]? = some (⟨"OneWayTown", "alike", "(IZ)I"⟩, prog_1_method_33_code, 3, (some .int), 11, 0) := by rfl
theorem ln_173 : jm_na[173]? = some 2 := by rfl
theorem lk_173 : Cond.methodLink R_law 129 ⟨"OneWayTown", "alike", "(IZ)I"⟩ ∈ jm_T := jm_T_mem (i := 1208) (by decide +kernel) rfl
theorem lz_173 : Cond.selects "OneWayTown" ⟨"OneWayTown", "alike", "(IZ)I"⟩ ⟨"OneWayTown", "alike", "(IZ)I"⟩ ∈ jm_T := jm_T_mem (i := 1210) (by decide +kernel) rfl
theorem lq_276 : jm_ms[276]? = some (⟨"OneWayTownModel", "alike", "(IZ)I"⟩, prog_14_method_98_code, 6, (some .int), 12, 0) := by rfl
theorem ln_276 : jm_na[276]? = some 2 := by rfl
theorem lk_276 : Cond.methodLink R_law 132 ⟨"OneWayTownModel", "alike", "(IZ)I"⟩ ∈ jm_T := jm_T_mem (i := 1996) (by decide +kernel) rfl
theorem lz_276 : Cond.selects "OneWayTownModel" ⟨"OneWayTownModel", "alike", "(IZ)I"⟩ ⟨"OneWayTownModel", "alike", "(IZ)I"⟩ ∈ jm_T := jm_T_mem (i := 1998) (by decide +kernel) rfl
theorem lq_174 : jm_ms[174]? = some (⟨"OneWayTown", "selves", "(Z)J"⟩, prog_1_method_34_code, 2, (some .long), 11, 0) := by rfl
theorem ln_174 : jm_na[174]? = some 1 := by rfl
theorem lk_174 : Cond.methodLink R_law 133 ⟨"OneWayTown", "selves", "(Z)J"⟩ ∈ jm_T := jm_T_mem (i := 1230) (by decide +kernel) rfl
theorem lz_174 : Cond.selects "OneWayTown" ⟨"OneWayTown", "selves", "(Z)J"⟩ ⟨"OneWayTown", "selves", "(Z)J"⟩ ∈ jm_T := jm_T_mem (i := 1232) (by decide +kernel) rfl
theorem lq_283 : jm_ms[283]? = some (⟨"OneWayTownModel", "selves", "(Z)J"⟩, prog_14_method_99_code, 2, (some .long), 12, 0) := by rfl
theorem ln_283 : jm_na[283]? = some 1 := by rfl
theorem lk_283 : Cond.methodLink R_law 137 ⟨"OneWayTownModel", "selves", "(Z)J"⟩ ∈ jm_T := jm_T_mem (i := 2025) (by decide +kernel) rfl
theorem lz_283 : Cond.selects "OneWayTownModel" ⟨"OneWayTownModel", "selves", "(Z)J"⟩ ⟨"OneWayTownModel", "selves", "(Z)J"⟩ ∈ jm_T := jm_T_mem (i := 2027) (by decide +kernel) rfl
theorem lq_175 : jm_ms[175]? = some (⟨"OneWayTown", "unlike", "(I)I"⟩, prog_1_method_35_code, 2, (some .int), 11, 0) := by rfl
theorem ln_175 : jm_na[175]? = some 1 := by rfl
theorem lk_175 : Cond.methodLink R_law 138 ⟨"OneWayTown", "unlike", "(I)I"⟩ ∈ jm_T := jm_T_mem (i := 1242) (by decide +kernel) rfl
theorem lz_175 : Cond.selects "OneWayTown" ⟨"OneWayTown", "unlike", "(I)I"⟩ ⟨"OneWayTown", "unlike", "(I)I"⟩ ∈ jm_T := jm_T_mem (i := 1244) (by decide +kernel) rfl
theorem lq_284 : jm_ms[284]? = some (⟨"OneWayTownModel", "unlike", "(I)I"⟩, prog_14_method_101_code, 5, (some .int), 12, 0) := by rfl
theorem ln_284 : jm_na[284]? = some 1 := by rfl
theorem lk_284 : Cond.methodLink R_law 141 ⟨"OneWayTownModel", "unlike", "(I)I"⟩ ∈ jm_T := jm_T_mem (i := 2029) (by decide +kernel) rfl
theorem lz_284 : Cond.selects "OneWayTownModel" ⟨"OneWayTownModel", "unlike", "(I)I"⟩ ⟨"OneWayTownModel", "unlike", "(I)I"⟩ ∈ jm_T := jm_T_mem (i := 2031) (by decide +kernel) rfl
theorem lq_176 : jm_ms[176]? = some (⟨"OneWayTown", "marks", "()I"⟩, prog_1_method_36_code, 1, (some .int), 11, 0) := by rfl
theorem ln_176 : jm_na[176]? = some 0 := by rfl
theorem lk_176 : Cond.methodLink R_law 142 ⟨"OneWayTown", "marks", "()I"⟩ ∈ jm_T := jm_T_mem (i := 1258) (by decide +kernel) rfl
theorem lz_176 : Cond.selects "OneWayTown" ⟨"OneWayTown", "marks", "()I"⟩ ⟨"OneWayTown", "marks", "()I"⟩ ∈ jm_T := jm_T_mem (i := 1260) (by decide +kernel) rfl
theorem lq_286 : jm_ms[286]? = some (⟨"OneWayTownModel", "marks", "()I"⟩, prog_14_method_103_code, 1, (some .int), 12, 0) := by rfl
theorem ln_286 : jm_na[286]? = some 0 := by rfl
theorem lk_286 : Cond.methodLink R_law 145 ⟨"OneWayTownModel", "marks", "()I"⟩ ∈ jm_T := jm_T_mem (i := 2037) (by decide +kernel) rfl
theorem lz_286 : Cond.selects "OneWayTownModel" ⟨"OneWayTownModel", "marks", "()I"⟩ ⟨"OneWayTownModel", "marks", "()I"⟩ ∈ jm_T := jm_T_mem (i := 2039) (by decide +kernel) rfl
theorem lq_156 : jm_ms[156]? = some (⟨"OneWayTown", "grown", "(IJ)Z"⟩, prog_1_method_18_code, 4, (some .boolean), 11, 0) := by rfl
theorem ln_156 : jm_na[156]? = some 2 := by rfl
theorem lk_156 : Cond.methodLink R_law 148 ⟨"OneWayTown", "grown", "(IJ)Z"⟩ ∈ jm_T := jm_T_mem (i := 975) (by decide +kernel) rfl
theorem lz_156 : Cond.selects "OneWayTown" ⟨"OneWayTown", "grown", "(IJ)Z"⟩ ⟨"OneWayTown", "grown", "(IJ)Z"⟩ ∈ jm_T := jm_T_mem (i := 977) (by decide +kernel) rfl
theorem lq_288 : jm_ms[288]? = some (⟨"OneWayTownModel", "grown", "(IJ)Z"⟩, prog_14_method_107_code, 5, (some .boolean), 12, 0) := by rfl
theorem ln_288 : jm_na[288]? = some 2 := by rfl
theorem lk_288 : Cond.methodLink R_law 152 ⟨"OneWayTownModel", "grown", "(IJ)Z"⟩ ∈ jm_T := jm_T_mem (i := 2045) (by decide +kernel) rfl
theorem lz_288 : Cond.selects "OneWayTownModel" ⟨"OneWayTownModel", "grown", "(IJ)Z"⟩ ⟨"OneWayTownModel", "grown", "(IJ)Z"⟩ ∈ jm_T := jm_T_mem (i := 2047) (by decide +kernel) rfl
theorem lq_177 : jm_ms[177]? = some (⟨"OneWayTown", "tried", "(II)I"⟩, prog_1_method_37_code, 3, (some .int), 11, 0) := by rfl
theorem ln_177 : jm_na[177]? = some 2 := by rfl
theorem lk_177 : Cond.methodLink R_law 153 ⟨"OneWayTown", "tried", "(II)I"⟩ ∈ jm_T := jm_T_mem (i := 1272) (by decide +kernel) rfl
theorem lz_177 : Cond.selects "OneWayTown" ⟨"OneWayTown", "tried", "(II)I"⟩ ⟨"OneWayTown", "tried", "(II)I"⟩ ∈ jm_T := jm_T_mem (i := 1274) (by decide +kernel) rfl
theorem lq_292 : jm_ms[292]? = some (⟨"OneWayTownModel", "tried", "(II)I"⟩, prog_14_method_113_code, 8, (some .int), 12, 0) := by rfl
theorem ln_292 : jm_na[292]? = some 2 := by rfl
theorem lk_292 : Cond.methodLink R_law 156 ⟨"OneWayTownModel", "tried", "(II)I"⟩ ∈ jm_T := jm_T_mem (i := 2062) (by decide +kernel) rfl
theorem lz_292 : Cond.selects "OneWayTownModel" ⟨"OneWayTownModel", "tried", "(II)I"⟩ ⟨"OneWayTownModel", "tried", "(II)I"⟩ ∈ jm_T := jm_T_mem (i := 2064) (by decide +kernel) rfl
theorem lq_150 : jm_ms[150]? = some (⟨"OneWayTown", "joined", "(II)I"⟩, prog_1_method_13_code, 3, (some .int), 11, 0) := by rfl
theorem ln_150 : jm_na[150]? = some 2 := by rfl
theorem lk_150 : Cond.methodLink R_law 157 ⟨"OneWayTown", "joined", "(II)I"⟩ ∈ jm_T := jm_T_mem (i := 917) (by decide +kernel) rfl
theorem lz_150 : Cond.selects "OneWayTown" ⟨"OneWayTown", "joined", "(II)I"⟩ ⟨"OneWayTown", "joined", "(II)I"⟩ ∈ jm_T := jm_T_mem (i := 919) (by decide +kernel) rfl
theorem lq_298 : jm_ms[298]? = some (⟨"OneWayTownModel", "joined", "(II)I"⟩, prog_14_method_115_code, 8, (some .int), 12, 0) := by rfl
theorem ln_298 : jm_na[298]? = some 2 := by rfl
theorem lk_298 : Cond.methodLink R_law 160 ⟨"OneWayTownModel", "joined", "(II)I"⟩ ∈ jm_T := jm_T_mem (i := 2085) (by decide +kernel) rfl
theorem lz_298 : Cond.selects "OneWayTownModel" ⟨"OneWayTownModel", "joined", "(II)I"⟩ ⟨"OneWayTownModel", "joined", "(II)I"⟩ ∈ jm_T := jm_T_mem (i := 2087) (by decide +kernel) rfl
theorem lq_178 : jm_ms[178]? = some (⟨"OneWayTown", "lies", "(I)I"⟩, prog_1_method_38_code, 2, (some .int), 11, 0) := by rfl
theorem ln_178 : jm_na[178]? = some 1 := by rfl
theorem lk_178 : Cond.methodLink R_law 161 ⟨"OneWayTown", "lies", "(I)I"⟩ ∈ jm_T := jm_T_mem (i := 1328) (by decide +kernel) rfl
theorem lz_178 : Cond.selects "OneWayTown" ⟨"OneWayTown", "lies", "(I)I"⟩ ⟨"OneWayTown", "lies", "(I)I"⟩ ∈ jm_T := jm_T_mem (i := 1330) (by decide +kernel) rfl
theorem lq_220 : jm_ms[220]? = some (⟨"OneWayTownModel", "lies", "(I)I"⟩, prog_14_method_41_code, 2, (some .int), 12, 0) := by rfl
theorem ln_220 : jm_na[220]? = some 1 := by rfl
theorem lk_220 : Cond.methodLink R_law 164 ⟨"OneWayTownModel", "lies", "(I)I"⟩ ∈ jm_T := jm_T_mem (i := 1774) (by decide +kernel) rfl
theorem lz_220 : Cond.selects "OneWayTownModel" ⟨"OneWayTownModel", "lies", "(I)I"⟩ ⟨"OneWayTownModel", "lies", "(I)I"⟩ ∈ jm_T := jm_T_mem (i := 1776) (by decide +kernel) rfl
theorem lq_179 : jm_ms[179]? = some (⟨"OneWayTown", "distance", "(III)I"⟩, prog_1_method_39_code, 4, (some .int), 11, 0) := by rfl
theorem ln_179 : jm_na[179]? = some 3 := by rfl
theorem lk_179 : Cond.methodLink R_law 165 ⟨"OneWayTown", "distance", "(III)I"⟩ ∈ jm_T := jm_T_mem (i := 1332) (by decide +kernel) rfl
theorem lz_179 : Cond.selects "OneWayTown" ⟨"OneWayTown", "distance", "(III)I"⟩ ⟨"OneWayTown", "distance", "(III)I"⟩ ∈ jm_T := jm_T_mem (i := 1334) (by decide +kernel) rfl
theorem lq_300 : jm_ms[300]? = some (⟨"OneWayTownModel", "distance", "(III)I"⟩, prog_14_method_116_code, 4, (some .int), 12, 0) := by rfl
theorem ln_300 : jm_na[300]? = some 3 := by rfl
theorem lk_300 : Cond.methodLink R_law 168 ⟨"OneWayTownModel", "distance", "(III)I"⟩ ∈ jm_T := jm_T_mem (i := 2093) (by decide +kernel) rfl
theorem lz_300 : Cond.selects "OneWayTownModel" ⟨"OneWayTownModel", "distance", "(III)I"⟩ ⟨"OneWayTownModel", "distance", "(III)I"⟩ ∈ jm_T := jm_T_mem (i := 2095) (by decide +kernel) rfl
theorem lq_180 : jm_ms[180]? = some (⟨"OneWayTown", "untell", "(I)Z"⟩, prog_1_method_40_code, 2, (some .boolean), 11, 0) := by rfl
theorem ln_180 : jm_na[180]? = some 1 := by rfl
theorem lk_180 : Cond.methodLink R_law 169 ⟨"OneWayTown", "untell", "(I)Z"⟩ ∈ jm_T := jm_T_mem (i := 1343) (by decide +kernel) rfl
theorem lz_180 : Cond.selects "OneWayTown" ⟨"OneWayTown", "untell", "(I)Z"⟩ ⟨"OneWayTown", "untell", "(I)Z"⟩ ∈ jm_T := jm_T_mem (i := 1345) (by decide +kernel) rfl
theorem lq_301 : jm_ms[301]? = some (⟨"OneWayTownModel", "untell", "(I)Z"⟩, prog_14_method_117_code, 2, (some .boolean), 12, 0) := by rfl
theorem ln_301 : jm_na[301]? = some 1 := by rfl
theorem lk_301 : Cond.methodLink R_law 173 ⟨"OneWayTownModel", "untell", "(I)Z"⟩ ∈ jm_T := jm_T_mem (i := 2097) (by decide +kernel) rfl
theorem lz_301 : Cond.selects "OneWayTownModel" ⟨"OneWayTownModel", "untell", "(I)Z"⟩ ⟨"OneWayTownModel", "untell", "(I)Z"⟩ ∈ jm_T := jm_T_mem (i := 2099) (by decide +kernel) rfl
theorem lq_181 : jm_ms[181]? = some (⟨"OneWayTown", "later", "(I)I"⟩, prog_1_method_41_code, 2, (some .int), 11, 0) := by rfl
theorem ln_181 : jm_na[181]? = some 1 := by rfl
theorem lk_181 : Cond.methodLink R_law 174 ⟨"OneWayTown", "later", "(I)I"⟩ ∈ jm_T := jm_T_mem (i := 1351) (by decide +kernel) rfl
theorem lz_181 : Cond.selects "OneWayTown" ⟨"OneWayTown", "later", "(I)I"⟩ ⟨"OneWayTown", "later", "(I)I"⟩ ∈ jm_T := jm_T_mem (i := 1353) (by decide +kernel) rfl
theorem lq_302 : jm_ms[302]? = some (⟨"OneWayTownModel", "later", "(I)I"⟩, prog_14_method_118_code, 2, (some .int), 12, 0) := by rfl
theorem ln_302 : jm_na[302]? = some 1 := by rfl
theorem lk_302 : Cond.methodLink R_law 177 ⟨"OneWayTownModel", "later", "(I)I"⟩ ∈ jm_T := jm_T_mem (i := 2101) (by decide +kernel) rfl
theorem lz_302 : Cond.selects "OneWayTownModel" ⟨"OneWayTownModel", "later", "(I)I"⟩ ⟨"OneWayTownModel", "later", "(I)I"⟩ ∈ jm_T := jm_T_mem (i := 2103) (by decide +kernel) rfl
theorem lq_182 : jm_ms[182]? = some (⟨"OneWayTown", "wrong", "(II)I"⟩, prog_1_method_42_code, 3, (some .int), 11, 0) := by rfl
theorem ln_182 : jm_na[182]? = some 2 := by rfl
theorem lk_182 : Cond.methodLink R_law 178 ⟨"OneWayTown", "wrong", "(II)I"⟩ ∈ jm_T := jm_T_mem (i := 1360) (by decide +kernel) rfl
theorem lz_182 : Cond.selects "OneWayTown" ⟨"OneWayTown", "wrong", "(II)I"⟩ ⟨"OneWayTown", "wrong", "(II)I"⟩ ∈ jm_T := jm_T_mem (i := 1362) (by decide +kernel) rfl
theorem lq_303 : jm_ms[303]? = some (⟨"OneWayTownModel", "wrong", "(II)I"⟩, prog_14_method_125_code, 3, (some .int), 12, 0) := by rfl
theorem ln_303 : jm_na[303]? = some 2 := by rfl
theorem lk_303 : Cond.methodLink R_law 181 ⟨"OneWayTownModel", "wrong", "(II)I"⟩ ∈ jm_T := jm_T_mem (i := 2106) (by decide +kernel) rfl
theorem lz_303 : Cond.selects "OneWayTownModel" ⟨"OneWayTownModel", "wrong", "(II)I"⟩ ⟨"OneWayTownModel", "wrong", "(II)I"⟩ ∈ jm_T := jm_T_mem (i := 2108) (by decide +kernel) rfl
theorem lq_183 : jm_ms[183]? = some (⟨"OneWayTown", "mended", "(III)I"⟩, prog_1_method_43_code, 4, (some .int), 11, 0) := by rfl
theorem ln_183 : jm_na[183]? = some 3 := by rfl
theorem lk_183 : Cond.methodLink R_law 182 ⟨"OneWayTown", "mended", "(III)I"⟩ ∈ jm_T := jm_T_mem (i := 1388) (by decide +kernel) rfl
theorem lz_183 : Cond.selects "OneWayTown" ⟨"OneWayTown", "mended", "(III)I"⟩ ⟨"OneWayTown", "mended", "(III)I"⟩ ∈ jm_T := jm_T_mem (i := 1390) (by decide +kernel) rfl
theorem lq_310 : jm_ms[310]? = some (⟨"OneWayTownModel", "mended", "(III)I"⟩, prog_14_method_127_code, 7, (some .int), 12, 0) := by rfl
theorem ln_310 : jm_na[310]? = some 3 := by rfl
theorem lk_310 : Cond.methodLink R_law 185 ⟨"OneWayTownModel", "mended", "(III)I"⟩ ∈ jm_T := jm_T_mem (i := 2133) (by decide +kernel) rfl
theorem lz_310 : Cond.selects "OneWayTownModel" ⟨"OneWayTownModel", "mended", "(III)I"⟩ ⟨"OneWayTownModel", "mended", "(III)I"⟩ ∈ jm_T := jm_T_mem (i := 2135) (by decide +kernel) rfl
theorem lq_159 : jm_ms[159]? = some (⟨"OneWayTown", "image", "(I)I"⟩, prog_1_method_21_code, 2, (some .int), 11, 0) := by rfl
theorem ln_159 : jm_na[159]? = some 1 := by rfl
theorem lk_159 : Cond.methodLink R_law 186 ⟨"OneWayTown", "image", "(I)I"⟩ ∈ jm_T := jm_T_mem (i := 1023) (by decide +kernel) rfl
theorem lz_159 : Cond.selects "OneWayTown" ⟨"OneWayTown", "image", "(I)I"⟩ ⟨"OneWayTown", "image", "(I)I"⟩ ∈ jm_T := jm_T_mem (i := 1025) (by decide +kernel) rfl
theorem lq_312 : jm_ms[312]? = some (⟨"OneWayTownModel", "image", "(I)I"⟩, prog_14_method_128_code, 3, (some .int), 12, 0) := by rfl
theorem ln_312 : jm_na[312]? = some 1 := by rfl
theorem lk_312 : Cond.methodLink R_law 189 ⟨"OneWayTownModel", "image", "(I)I"⟩ ∈ jm_T := jm_T_mem (i := 2141) (by decide +kernel) rfl
theorem lz_312 : Cond.selects "OneWayTownModel" ⟨"OneWayTownModel", "image", "(I)I"⟩ ⟨"OneWayTownModel", "image", "(I)I"⟩ ∈ jm_T := jm_T_mem (i := 2143) (by decide +kernel) rfl
theorem lq_160 : jm_ms[160]? = some (⟨"OneWayTown", "back", "(I)I"⟩, prog_1_method_22_code, 2, (some .int), 11, 0) := by rfl
theorem ln_160 : jm_na[160]? = some 1 := by rfl
theorem lk_160 : Cond.methodLink R_law 190 ⟨"OneWayTown", "back", "(I)I"⟩ ∈ jm_T := jm_T_mem (i := 1027) (by decide +kernel) rfl
theorem lz_160 : Cond.selects "OneWayTown" ⟨"OneWayTown", "back", "(I)I"⟩ ⟨"OneWayTown", "back", "(I)I"⟩ ∈ jm_T := jm_T_mem (i := 1029) (by decide +kernel) rfl
theorem lq_313 : jm_ms[313]? = some (⟨"OneWayTownModel", "back", "(I)I"⟩, prog_14_method_129_code, 3, (some .int), 12, 0) := by rfl
theorem ln_313 : jm_na[313]? = some 1 := by rfl
theorem lk_313 : Cond.methodLink R_law 193 ⟨"OneWayTownModel", "back", "(I)I"⟩ ∈ jm_T := jm_T_mem (i := 2145) (by decide +kernel) rfl
theorem lz_313 : Cond.selects "OneWayTownModel" ⟨"OneWayTownModel", "back", "(I)I"⟩ ⟨"OneWayTownModel", "back", "(I)I"⟩ ∈ jm_T := jm_T_mem (i := 2147) (by decide +kernel) rfl
theorem lq_184 : jm_ms[184]? = some (⟨"OneWayTown", "about", "(I)I"⟩, prog_1_method_44_code, 2, (some .int), 11, 0) := by rfl
theorem ln_184 : jm_na[184]? = some 1 := by rfl
theorem lk_184 : Cond.methodLink R_law 194 ⟨"OneWayTown", "about", "(I)I"⟩ ∈ jm_T := jm_T_mem (i := 1412) (by decide +kernel) rfl
theorem lz_184 : Cond.selects "OneWayTown" ⟨"OneWayTown", "about", "(I)I"⟩ ⟨"OneWayTown", "about", "(I)I"⟩ ∈ jm_T := jm_T_mem (i := 1414) (by decide +kernel) rfl
theorem lq_314 : jm_ms[314]? = some (⟨"OneWayTownModel", "about", "(I)I"⟩, prog_14_method_130_code, 2, (some .int), 12, 0) := by rfl
theorem ln_314 : jm_na[314]? = some 1 := by rfl
theorem lk_314 : Cond.methodLink R_law 197 ⟨"OneWayTownModel", "about", "(I)I"⟩ ∈ jm_T := jm_T_mem (i := 2149) (by decide +kernel) rfl
theorem lz_314 : Cond.selects "OneWayTownModel" ⟨"OneWayTownModel", "about", "(I)I"⟩ ⟨"OneWayTownModel", "about", "(I)I"⟩ ∈ jm_T := jm_T_mem (i := 2151) (by decide +kernel) rfl
theorem lw_c146 : Cond.constantLong R_law 146 4294967295 ∈ jm_T := jm_T_mem (i := 2161) (by decide +kernel) rfl
