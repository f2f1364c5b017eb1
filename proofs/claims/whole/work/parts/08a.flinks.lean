theorem flok_es : ∀ q ∈ FL_es, am_fok "EarSchool" q := by
  intro q hq
  simp only [FL_es, List.mem_cons, List.not_mem_nil, or_false] at hq
  rcases hq with rfl | rfl | rfl | rfl | rfl | rfl | rfl | rfl | rfl | rfl | rfl | rfl | rfl | rfl | rfl | rfl | rfl | rfl | rfl | rfl | rfl | rfl | rfl | rfl | rfl | rfl | rfl | rfl | rfl | rfl | rfl | rfl | rfl | rfl | rfl | rfl | rfl
  · exact ⟨_, rfl, by decide, _, am_wd_in 311 (by decide +kernel), Or.inl rfl⟩
  · exact ⟨_, rfl, by decide, _, am_wd_in 312 (by decide +kernel), Or.inl rfl⟩
  · exact ⟨_, rfl, by decide, _, am_wd_in 313 (by decide +kernel), Or.inl rfl⟩
  · exact ⟨_, rfl, by decide, _, am_wd_in 314 (by decide +kernel), Or.inl rfl⟩
  · exact ⟨_, rfl, by decide, _, am_wd_in 315 (by decide +kernel), Or.inl rfl⟩
  · exact ⟨_, rfl, by decide, _, am_wd_in 316 (by decide +kernel), Or.inl rfl⟩
  · exact ⟨_, rfl, by decide, _, am_wd_in 317 (by decide +kernel), Or.inl rfl⟩
  · exact ⟨_, rfl, by decide, _, am_wd_in 318 (by decide +kernel), Or.inl rfl⟩
  · exact ⟨_, rfl, by decide, _, am_wd_in 319 (by decide +kernel), Or.inl rfl⟩
  · exact ⟨_, rfl, by decide, _, am_wd_in 89 (by decide +kernel), Or.inl rfl⟩
  · exact ⟨_, rfl, by decide, _, am_wd_in 82 (by decide +kernel), Or.inl rfl⟩
  · exact ⟨_, rfl, by decide, _, am_wd_in 86 (by decide +kernel), Or.inl rfl⟩
  · exact ⟨_, rfl, by decide, _, am_wd_in 113 (by decide +kernel), Or.inl rfl⟩
  · exact ⟨_, rfl, by decide, _, am_wd_in 118 (by decide +kernel), Or.inl rfl⟩
  · exact ⟨_, rfl, by decide, _, am_wd_in 123 (by decide +kernel), Or.inl rfl⟩
  · exact ⟨_, rfl, by decide, _, am_wd_in 111 (by decide +kernel), Or.inl rfl⟩
  · exact ⟨_, rfl, by decide, _, am_wd_in 128 (by decide +kernel), Or.inl rfl⟩
  · exact ⟨_, rfl, by decide, _, am_wd_in 130 (by decide +kernel), Or.inl rfl⟩
  · exact ⟨_, rfl, by decide, _, am_wd_in 193 (by decide +kernel), Or.inl rfl⟩
  · exact ⟨_, rfl, by decide, _, am_wd_in 195 (by decide +kernel), Or.inl rfl⟩
  · exact ⟨_, rfl, by decide, _, am_wd_in 197 (by decide +kernel), Or.inl rfl⟩
  · exact ⟨_, rfl, by decide, _, am_wd_in 191 (by decide +kernel), Or.inl rfl⟩
  · exact ⟨_, rfl, by decide, _, am_wd_in 223 (by decide +kernel), Or.inl rfl⟩
  · exact ⟨_, rfl, by decide, _, am_wd_in 219 (by decide +kernel), Or.inl rfl⟩
  · exact ⟨_, rfl, by decide, _, am_wd_in 227 (by decide +kernel), Or.inl rfl⟩
  · exact ⟨_, rfl, by decide, _, am_wd_in 225 (by decide +kernel), Or.inl rfl⟩
  · exact ⟨_, rfl, by decide, _, am_wd_in 221 (by decide +kernel), Or.inl rfl⟩
  · exact ⟨_, rfl, by decide, _, am_wd_in 270 (by decide +kernel), Or.inl rfl⟩
  · exact ⟨_, rfl, by decide, _, am_wd_in 272 (by decide +kernel), Or.inl rfl⟩
  · exact ⟨_, rfl, by decide, _, am_wd_in 268 (by decide +kernel), Or.inl rfl⟩
  · exact ⟨_, rfl, by decide, _, am_wd_in 258 (by decide +kernel), Or.inl rfl⟩
  · exact ⟨_, rfl, by decide, _, am_wd_in 261 (by decide +kernel), Or.inl rfl⟩
  · exact ⟨_, rfl, by decide, _, am_wd_in 263 (by decide +kernel), Or.inl rfl⟩
  · exact ⟨_, rfl, by decide, _, am_wd_in 265 (by decide +kernel), Or.inl rfl⟩
  · exact ⟨_, rfl, by decide, _, am_wd_in 303 (by decide +kernel), Or.inl rfl⟩
  · exact ⟨_, rfl, by decide, _, am_wd_in 305 (by decide +kernel), Or.inl rfl⟩
  · exact ⟨_, rfl, by decide, _, am_wd_in 176 (by decide +kernel), Or.inl rfl⟩
theorem flok_ct : ∀ q ∈ FL_ct, am_fok "EarSchool$CountTable" q := by
  intro q hq
  simp only [FL_ct, List.mem_cons, List.not_mem_nil, or_false] at hq
  rcases hq with rfl | rfl | rfl | rfl | rfl | rfl
  · exact ⟨_, rfl, by decide, "EarSchool$CountTable", am_wd_in 155 (by decide +kernel), Or.inr (am_wd_in 156 (by decide +kernel))⟩
  · exact ⟨_, rfl, by decide, _, am_wd_in 114 (by decide +kernel), Or.inl rfl⟩
  · exact ⟨_, rfl, by decide, _, am_wd_in 92 (by decide +kernel), Or.inl rfl⟩
  · exact ⟨_, rfl, by decide, _, am_wd_in 124 (by decide +kernel), Or.inl rfl⟩
  · exact ⟨_, rfl, by decide, _, am_wd_in 120 (by decide +kernel), Or.inl rfl⟩
  · exact ⟨_, rfl, by decide, _, am_wd_in 84 (by decide +kernel), Or.inl rfl⟩
theorem flok_ha : ∀ q ∈ FL_ha, am_fok "EarSchool$Harmony" q := by
  intro q hq
  simp only [FL_ha, List.mem_cons, List.not_mem_nil, or_false] at hq
  rcases hq with rfl | rfl | rfl | rfl | rfl | rfl | rfl | rfl
  · exact ⟨_, rfl, by decide, _, am_wd_in 218 (by decide +kernel), Or.inl rfl⟩
  · exact ⟨_, rfl, by decide, _, am_wd_in 220 (by decide +kernel), Or.inl rfl⟩
  · exact ⟨_, rfl, by decide, _, am_wd_in 222 (by decide +kernel), Or.inl rfl⟩
  · exact ⟨_, rfl, by decide, _, am_wd_in 224 (by decide +kernel), Or.inl rfl⟩
  · exact ⟨_, rfl, by decide, _, am_wd_in 226 (by decide +kernel), Or.inl rfl⟩
  · exact ⟨_, rfl, by decide, _, am_wd_in 228 (by decide +kernel), Or.inl rfl⟩
  · exact ⟨_, rfl, by decide, _, am_wd_in 229 (by decide +kernel), Or.inl rfl⟩
  · exact ⟨_, rfl, by decide, _, am_wd_in 230 (by decide +kernel), Or.inl rfl⟩
theorem flok_ju : ∀ q ∈ FL_ju, am_fok "EarSchool$Judgement" q := by
  intro q hq
  simp only [FL_ju, List.mem_cons, List.not_mem_nil, or_false] at hq
  rcases hq with rfl | rfl | rfl | rfl | rfl | rfl | rfl | rfl | rfl | rfl | rfl | rfl | rfl
  · exact ⟨_, rfl, by decide, _, am_wd_in 256 (by decide +kernel), Or.inl rfl⟩
  · exact ⟨_, rfl, by decide, _, am_wd_in 257 (by decide +kernel), Or.inl rfl⟩
  · exact ⟨_, rfl, by decide, _, am_wd_in 259 (by decide +kernel), Or.inl rfl⟩
  · exact ⟨_, rfl, by decide, _, am_wd_in 262 (by decide +kernel), Or.inl rfl⟩
  · exact ⟨_, rfl, by decide, _, am_wd_in 264 (by decide +kernel), Or.inl rfl⟩
  · exact ⟨_, rfl, by decide, _, am_wd_in 266 (by decide +kernel), Or.inl rfl⟩
  · exact ⟨_, rfl, by decide, _, am_wd_in 269 (by decide +kernel), Or.inl rfl⟩
  · exact ⟨_, rfl, by decide, _, am_wd_in 271 (by decide +kernel), Or.inl rfl⟩
  · exact ⟨_, rfl, by decide, _, am_wd_in 254 (by decide +kernel), Or.inl rfl⟩
  · exact ⟨_, rfl, by decide, _, am_wd_in 255 (by decide +kernel), Or.inl rfl⟩
  · exact ⟨_, rfl, by decide, _, am_wd_in 90 (by decide +kernel), Or.inl rfl⟩
  · exact ⟨_, rfl, by decide, _, am_wd_in 83 (by decide +kernel), Or.inl rfl⟩
  · exact ⟨_, rfl, by decide, _, am_wd_in 87 (by decide +kernel), Or.inl rfl⟩
theorem flok_mt : ∀ q ∈ FL_mt, am_fok "EarSchool$MelodyTable" q := by
  intro q hq
  simp only [FL_mt, List.mem_cons, List.not_mem_nil, or_false] at hq
  rcases hq with rfl | rfl | rfl | rfl | rfl | rfl | rfl | rfl | rfl | rfl
  · exact ⟨_, rfl, by decide, _, am_wd_in 159 (by decide +kernel), Or.inl rfl⟩
  · exact ⟨_, rfl, by decide, _, am_wd_in 159 (by decide +kernel), Or.inl rfl⟩
  · exact ⟨_, rfl, by decide, _, am_wd_in 160 (by decide +kernel), Or.inl rfl⟩
  · exact ⟨_, rfl, by decide, _, am_wd_in 160 (by decide +kernel), Or.inl rfl⟩
  · exact ⟨_, rfl, by decide, _, am_wd_in 154 (by decide +kernel), Or.inl rfl⟩
  · exact ⟨_, rfl, by decide, _, am_wd_in 154 (by decide +kernel), Or.inl rfl⟩
  · exact ⟨_, rfl, by decide, _, am_wd_in 126 (by decide +kernel), Or.inl rfl⟩
  · exact ⟨_, rfl, by decide, _, am_wd_in 116 (by decide +kernel), Or.inl rfl⟩
  · exact ⟨_, rfl, by decide, _, am_wd_in 121 (by decide +kernel), Or.inl rfl⟩
  · exact ⟨_, rfl, by decide, _, am_wd_in 131 (by decide +kernel), Or.inl rfl⟩
theorem flok_me : ∀ q ∈ FL_me, am_fok "EarSchool$Metre" q := by
  intro q hq
  simp only [FL_me, List.mem_cons, List.not_mem_nil, or_false] at hq
  rcases hq with rfl | rfl | rfl | rfl | rfl | rfl | rfl
  · exact ⟨_, rfl, by decide, _, am_wd_in 189 (by decide +kernel), Or.inl rfl⟩
  · exact ⟨_, rfl, by decide, _, am_wd_in 190 (by decide +kernel), Or.inl rfl⟩
  · exact ⟨_, rfl, by decide, _, am_wd_in 192 (by decide +kernel), Or.inl rfl⟩
  · exact ⟨_, rfl, by decide, _, am_wd_in 194 (by decide +kernel), Or.inl rfl⟩
  · exact ⟨_, rfl, by decide, _, am_wd_in 196 (by decide +kernel), Or.inl rfl⟩
  · exact ⟨_, rfl, by decide, _, am_wd_in 198 (by decide +kernel), Or.inl rfl⟩
  · exact ⟨_, rfl, by decide, _, am_wd_in 94 (by decide +kernel), Or.inl rfl⟩
theorem flok_no : ∀ q ∈ FL_no, am_fok "EarSchool$Notes" q := by
  intro q hq
  simp only [FL_no, List.mem_cons, List.not_mem_nil, or_false] at hq
  rcases hq with rfl | rfl | rfl
  · exact ⟨_, rfl, by decide, _, am_wd_in 80 (by decide +kernel), Or.inl rfl⟩
  · exact ⟨_, rfl, by decide, _, am_wd_in 85 (by decide +kernel), Or.inl rfl⟩
  · exact ⟨_, rfl, by decide, _, am_wd_in 88 (by decide +kernel), Or.inl rfl⟩
theorem flok_pu : ∀ q ∈ FL_pu, am_fok "EarSchool$Pupils" q := by
  intro q hq
  simp only [FL_pu, List.mem_cons, List.not_mem_nil, or_false] at hq
  rcases hq with rfl | rfl | rfl | rfl | rfl | rfl
  · exact ⟨_, rfl, by decide, _, am_wd_in 302 (by decide +kernel), Or.inl rfl⟩
  · exact ⟨_, rfl, by decide, _, am_wd_in 304 (by decide +kernel), Or.inl rfl⟩
  · exact ⟨_, rfl, by decide, _, am_wd_in 267 (by decide +kernel), Or.inl rfl⟩
  · exact ⟨_, rfl, by decide, _, am_wd_in 260 (by decide +kernel), Or.inl rfl⟩
  · exact ⟨_, rfl, by decide, _, am_wd_in 91 (by decide +kernel), Or.inl rfl⟩
  · exact ⟨_, rfl, by decide, _, am_wd_in 81 (by decide +kernel), Or.inl rfl⟩
theorem flok_ru : ∀ q ∈ FL_ru, am_fok "EarSchool$Rule" q := by
  intro q hq
  simp only [FL_ru, List.mem_cons, List.not_mem_nil, or_false] at hq
  rcases hq with rfl | rfl | rfl | rfl | rfl | rfl
  · exact ⟨_, rfl, by decide, _, am_wd_in 110 (by decide +kernel), Or.inl rfl⟩
  · exact ⟨_, rfl, by decide, _, am_wd_in 112 (by decide +kernel), Or.inl rfl⟩
  · exact ⟨_, rfl, by decide, _, am_wd_in 117 (by decide +kernel), Or.inl rfl⟩
  · exact ⟨_, rfl, by decide, _, am_wd_in 122 (by decide +kernel), Or.inl rfl⟩
  · exact ⟨_, rfl, by decide, _, am_wd_in 127 (by decide +kernel), Or.inl rfl⟩
  · exact ⟨_, rfl, by decide, _, am_wd_in 129 (by decide +kernel), Or.inl rfl⟩
theorem flok_wt : ∀ q ∈ FL_wt, am_fok "EarSchool$WeightTable" q := by
  intro q hq
  simp only [FL_wt, List.mem_cons, List.not_mem_nil, or_false] at hq
  rcases hq with rfl | rfl | rfl | rfl | rfl | rfl
  · exact ⟨_, rfl, by decide, _, am_wd_in 175 (by decide +kernel), Or.inl rfl⟩
  · exact ⟨_, rfl, by decide, "EarSchool$WeightTable", am_wd_in 157 (by decide +kernel), Or.inr (am_wd_in 158 (by decide +kernel))⟩
  · exact ⟨_, rfl, by decide, _, am_wd_in 115 (by decide +kernel), Or.inl rfl⟩
  · exact ⟨_, rfl, by decide, _, am_wd_in 93 (by decide +kernel), Or.inl rfl⟩
  · exact ⟨_, rfl, by decide, _, am_wd_in 125 (by decide +kernel), Or.inl rfl⟩
  · exact ⟨_, rfl, by decide, _, am_wd_in 119 (by decide +kernel), Or.inl rfl⟩
theorem flok_la : ∀ q ∈ FL_la, am_fok "EarSchoolLaw" q := fun q hq => absurd hq List.not_mem_nil
theorem flok_mo : ∀ q ∈ FL_mo, am_fok "EarSchoolModel" q := by
  intro q hq
  simp only [FL_mo, List.mem_cons, List.not_mem_nil, or_false] at hq
  rcases hq with rfl | rfl | rfl | rfl | rfl | rfl | rfl | rfl | rfl | rfl | rfl | rfl | rfl | rfl | rfl | rfl | rfl | rfl | rfl | rfl | rfl | rfl | rfl | rfl | rfl | rfl | rfl | rfl | rfl | rfl | rfl | rfl | rfl | rfl | rfl | rfl | rfl | rfl
  · exact ⟨_, rfl, by decide, _, am_wd_in 794 (by decide +kernel), Or.inl rfl⟩
  · exact ⟨_, rfl, by decide, _, am_wd_in 795 (by decide +kernel), Or.inl rfl⟩
  · exact ⟨_, rfl, by decide, _, am_wd_in 797 (by decide +kernel), Or.inl rfl⟩
  · exact ⟨_, rfl, by decide, _, am_wd_in 798 (by decide +kernel), Or.inl rfl⟩
  · exact ⟨_, rfl, by decide, _, am_wd_in 800 (by decide +kernel), Or.inl rfl⟩
  · exact ⟨_, rfl, by decide, _, am_wd_in 801 (by decide +kernel), Or.inl rfl⟩
  · exact ⟨_, rfl, by decide, _, am_wd_in 802 (by decide +kernel), Or.inl rfl⟩
  · exact ⟨_, rfl, by decide, _, am_wd_in 803 (by decide +kernel), Or.inl rfl⟩
  · exact ⟨_, rfl, by decide, _, am_wd_in 804 (by decide +kernel), Or.inl rfl⟩
  · exact ⟨_, rfl, by decide, _, am_wd_in 805 (by decide +kernel), Or.inl rfl⟩
  · exact ⟨_, rfl, by decide, _, am_wd_in 806 (by decide +kernel), Or.inl rfl⟩
  · exact ⟨_, rfl, by decide, _, am_wd_in 807 (by decide +kernel), Or.inl rfl⟩
  · exact ⟨_, rfl, by decide, _, am_wd_in 808 (by decide +kernel), Or.inl rfl⟩
  · exact ⟨_, rfl, by decide, _, am_wd_in 809 (by decide +kernel), Or.inl rfl⟩
  · exact ⟨_, rfl, by decide, _, am_wd_in 810 (by decide +kernel), Or.inl rfl⟩
  · exact ⟨_, rfl, by decide, _, am_wd_in 811 (by decide +kernel), Or.inl rfl⟩
  · exact ⟨_, rfl, by decide, _, am_wd_in 814 (by decide +kernel), Or.inl rfl⟩
  · exact ⟨_, rfl, by decide, _, am_wd_in 815 (by decide +kernel), Or.inl rfl⟩
  · exact ⟨_, rfl, by decide, _, am_wd_in 816 (by decide +kernel), Or.inl rfl⟩
  · exact ⟨_, rfl, by decide, _, am_wd_in 817 (by decide +kernel), Or.inl rfl⟩
  · exact ⟨_, rfl, by decide, _, am_wd_in 818 (by decide +kernel), Or.inl rfl⟩
  · exact ⟨_, rfl, by decide, _, am_wd_in 819 (by decide +kernel), Or.inl rfl⟩
  · exact ⟨_, rfl, by decide, _, am_wd_in 820 (by decide +kernel), Or.inl rfl⟩
  · exact ⟨_, rfl, by decide, _, am_wd_in 821 (by decide +kernel), Or.inl rfl⟩
  · exact ⟨_, rfl, by decide, _, am_wd_in 822 (by decide +kernel), Or.inl rfl⟩
  · exact ⟨_, rfl, by decide, _, am_wd_in 823 (by decide +kernel), Or.inl rfl⟩
  · exact ⟨_, rfl, by decide, _, am_wd_in 824 (by decide +kernel), Or.inl rfl⟩
  · exact ⟨_, rfl, by decide, _, am_wd_in 826 (by decide +kernel), Or.inl rfl⟩
  · exact ⟨_, rfl, by decide, _, am_wd_in 827 (by decide +kernel), Or.inl rfl⟩
  · exact ⟨_, rfl, by decide, _, am_wd_in 828 (by decide +kernel), Or.inl rfl⟩
  · exact ⟨_, rfl, by decide, _, am_wd_in 829 (by decide +kernel), Or.inl rfl⟩
  · exact ⟨_, rfl, by decide, _, am_wd_in 830 (by decide +kernel), Or.inl rfl⟩
  · exact ⟨_, rfl, by decide, _, am_wd_in 793 (by decide +kernel), Or.inl rfl⟩
  · exact ⟨_, rfl, by decide, _, am_wd_in 799 (by decide +kernel), Or.inl rfl⟩
  · exact ⟨_, rfl, by decide, _, am_wd_in 812 (by decide +kernel), Or.inl rfl⟩
  · exact ⟨_, rfl, by decide, _, am_wd_in 813 (by decide +kernel), Or.inl rfl⟩
  · exact ⟨_, rfl, by decide, _, am_wd_in 796 (by decide +kernel), Or.inl rfl⟩
  · exact ⟨_, rfl, by decide, _, am_wd_in 825 (by decide +kernel), Or.inl rfl⟩
theorem flok_ig : ∀ q ∈ FL_ig, am_fok "java/lang/Integer" q := fun q hq => absurd hq List.not_mem_nil
theorem flok_ma : ∀ q ∈ FL_ma, am_fok "java/lang/Math" q := fun q hq => absurd hq List.not_mem_nil
