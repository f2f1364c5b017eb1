theorem flok_es : ∀ q ∈ FL_es, am_fok "EarSchool" q := by
  intro q hq
  simp only [FL_es, List.mem_cons, List.not_mem_nil, or_false] at hq
  rcases hq with rfl | rfl | rfl | rfl | rfl | rfl | rfl | rfl | rfl | rfl | rfl | rfl | rfl | rfl | rfl | rfl | rfl | rfl | rfl | rfl | rfl | rfl | rfl | rfl | rfl | rfl | rfl | rfl | rfl | rfl | rfl | rfl | rfl | rfl | rfl | rfl | rfl
  · exact ⟨_, rfl, by decide, _, am_wd_in 311 (by decide +kernel), Or.inl rfl⟩
  · exact ⟨_, rfl, by decide, _, am_wd_in 312 (by decide +kernel), Or.inl rfl⟩
  · exact ⟨_, rfl, by decide, _, am_wd_in 313 (by decide +kernel), Or.inl rfl⟩
  · exact ⟨_, rfl, by decide, _, am_wd_in 314 (by decide +kernel), Or.inl rfl⟩
  · exact ⟨_, rfl, by decide, _, am_wd_in 315 (by decide +kernel), Or.inl rfl⟩
  · exact ⟨_, rfl, by decide, _, am_wd_in 316 (by decide +kernel), Or.inl rfl⟩
  · exact ⟨_, rfl, by decide, _, am_wd_in 317 (by decide +kernel), Or.inl rfl⟩
  · exact ⟨_, rfl, by decide, _, am_wd_in 318 (by decide +kernel), Or.inl rfl⟩
  · exact ⟨_, rfl, by decide, _, am_wd_in 319 (by decide +kernel), Or.inl rfl⟩
  · exact ⟨_, rfl, by decide, _, am_wd_in 89 (by decide +kernel), Or.inl rfl⟩
  · exact ⟨_, rfl, by decide, _, am_wd_in 82 (by decide +kernel), Or.inl rfl⟩
  · exact ⟨_, rfl, by decide, _, am_wd_in 86 (by decide +kernel), Or.inl rfl⟩
  · exact ⟨_, rfl, by decide, _, am_wd_in 113 (by decide +kernel), Or.inl rfl⟩
  · exact ⟨_, rfl, by decide, _, am_wd_in 118 (by decide +kernel), Or.inl rfl⟩
  · exact ⟨_, rfl, by decide, _, am_wd_in 123 (by decide +kernel), Or.inl rfl⟩
  · exact ⟨_, rfl, by decide, _, am_wd_in 111 (by decide +kernel), Or.inl rfl⟩
  · exact ⟨_, rfl, by decide, _, am_wd_in 128 (by decide +kernel), Or.inl rfl⟩
  · exact ⟨_, rfl, by decide, _, am_wd_in 130 (by decide +kernel), Or.inl rfl⟩
  · exact ⟨_, rfl, by decide, _, am_wd_in 193 (by decide +kernel), Or.inl rfl⟩
  · exact ⟨_, rfl, by decide, _, am_wd_in 195 (by decide +kernel), Or.inl rfl⟩
  · exact ⟨_, rfl, by decide, _, am_wd_in 197 (by decide +kernel), Or.inl rfl⟩
  · exact ⟨_, rfl, by decide, _, am_wd_in 191 (by decide +kernel), Or.inl rfl⟩
  · exact ⟨_, rfl, by decide, _, am_wd_in 223 (by decide +kernel), Or.inl rfl⟩
  · exact ⟨_, rfl, by decide, _, am_wd_in 219 (by decide +kernel), Or.inl rfl⟩
  · exact ⟨_, rfl, by decide, _, am_wd_in 227 (by decide +kernel), Or.inl rfl⟩
  · exact ⟨_, rfl, by decide, _, am_wd_in 225 (by decide +kernel), Or.inl rfl⟩
  · exact ⟨_, rfl, by decide, _, am_wd_in 221 (by decide +kernel), Or.inl rfl⟩
  · exact ⟨_, rfl, by decide, _, am_wd_in 270 (by decide +kernel), Or.inl rfl⟩
  · exact ⟨_, rfl, by decide, _, am_wd_in 272 (by decide +kernel), Or.inl rfl⟩
  · exact ⟨_, rfl, by decide, _, am_wd_in 268 (by decide +kernel), Or.inl rfl⟩
  · exact ⟨_, rfl, by decide, _, am_wd_in 258 (by decide +kernel), Or.inl rfl⟩
  · exact ⟨_, rfl, by decide, _, am_wd_in 261 (by decide +kernel), Or.inl rfl⟩
  · exact ⟨_, rfl, by decide, _, am_wd_in 263 (by decide +kernel), Or.inl rfl⟩
  · exact ⟨_, rfl, by decide, _, am_wd_in 265 (by decide +kernel), Or.inl rfl⟩
  · exact ⟨_, rfl, by decide, _, am_wd_in 303 (by decide +kernel), Or.inl rfl⟩
  · exact ⟨_, rfl, by decide, _, am_wd_in 305 (by decide +kernel), Or.inl rfl⟩
  · exact ⟨_, rfl, by decide, _, am_wd_in 176 (by decide +kernel), Or.inl rfl⟩
theorem flok_ct : ∀ q ∈ FL_ct, am_fok "EarSchool$CountTable" q := by
  intro q hq
  simp only [FL_ct, List.mem_cons, List.not_mem_nil, or_false] at hq
  rcases hq with rfl | rfl | rfl | rfl | rfl | rfl
  · exact ⟨_, rfl, by decide, _, am_wd_in 155 (by decide +kernel), Or.inr (am_wd_in 156 (by decide +kernel))⟩
  · exact ⟨_, rfl, by decide, _, am_wd_in 114 (by decide +kernel), Or.inl rfl⟩
  · exact ⟨_, rfl, by decide, _, am_wd_in 92 (by decide +kernel), Or.inl rfl⟩
  · exact ⟨_, rfl, by decide, _, am_wd_in 124 (by decide +kernel), Or.inl rfl⟩
  · exact ⟨_, rfl, by decide, _, am_wd_in 120 (by decide +kernel), Or.inl rfl⟩
  · exact ⟨_, rfl, by decide, _, am_wd_in 84 (by decide +kernel), Or.inl rfl⟩
theorem flok_ha : ∀ q ∈ FL_ha, am_fok "EarSchool$Harmony" q := by
  intro q hq
  simp only [FL_ha, List.mem_cons, List.not_mem_nil, or_false] at hq
  rcases hq with rfl | rfl | rfl | rfl | rfl | rfl | rfl | rfl
  · exact ⟨_, rfl, by decide, _, am_wd_in 218 (by decide +kernel), Or.inl rfl⟩
  · exact ⟨_, rfl, by decide, _, am_wd_in 220 (by decide +kernel), Or.inl rfl⟩
  · exact ⟨_, rfl, by decide, _, am_wd_in 222 (by decide +kernel), Or.inl rfl⟩
  · exact ⟨_, rfl, by decide, _, am_wd_in 224 (by decide +kernel), Or.inl rfl⟩
  · exact ⟨_, rfl, by decide, _, am_wd_in 226 (by decide +kernel), Or.inl rfl⟩
  · exact ⟨_, rfl, by decide, _, am_wd_in 228 (by decide +kernel), Or.inl rfl⟩
  · exact ⟨_, rfl, by decide, _, am_wd_in 229 (by decide +kernel), Or.inl rfl⟩
  · exact ⟨_, rfl, by decide, _, am_wd_in 230 (by decide +kernel), Or.inl rfl⟩
theorem flok_ju : ∀ q ∈ FL_ju, am_fok "EarSchool$Judgement" q := by
  intro q hq
  simp only [FL_ju, List.mem_cons, List.not_mem_nil, or_false] at hq
  rcases hq with rfl | rfl | rfl | rfl | rfl | rfl | rfl | rfl | rfl | rfl | rfl | rfl | rfl
  · exact ⟨_, rfl, by decide, _, am_wd_in 256 (by decide +kernel), Or.inl rfl⟩
  · exact ⟨_, rfl, by decide, _, am_wd_in 257 (by decide +kernel), Or.inl rfl⟩
  · exact ⟨_, rfl, by decide, _, am_wd_in 259 (by decide +kernel), Or.inl rfl⟩
  · exact ⟨_, rfl, by decide, _, am_wd_in 262 (by decide +kernel), Or.inl rfl⟩
  · exact ⟨_, rfl, by decide, _, am_wd_in 264 (by decide +kernel), Or.inl rfl⟩
  · exact ⟨_, rfl, by decide, _, am_wd_in 266 (by decide +kernel), Or.inl rfl⟩
  · exact ⟨_, rfl, by decide, _, am_wd_in 269 (by decide +kernel), Or.inl rfl⟩
  · exact ⟨_, rfl, by decide, _, am_wd_in 271 (by decide +kernel), Or.inl rfl⟩
  · exact ⟨_, rfl, by decide, _, am_wd_in 254 (by decide +kernel), Or.inl rfl⟩
  · exact ⟨_, rfl, by decide, _, am_wd_in 255 (by decide +kernel), Or.inl rfl⟩
  · exact ⟨_, rfl, by decide, _, am_wd_in 90 (by decide +kernel), Or.inl rfl⟩
  · exact ⟨_, rfl, by decide, _, am_wd_in 83 (by decide +kernel), Or.inl rfl⟩
  · exact ⟨_, rfl, by decide, _, am_wd_in 87 (by decide +kernel), Or.inl rfl⟩
theorem flok_mt : ∀ q ∈ FL_mt, am_fok "EarSchool$MelodyTable" q := by
  intro q hq
  simp only [FL_mt, List.mem_cons, List.not_mem_nil, or_false] at hq
  rcases hq with rfl | rfl | rfl | rfl | rfl | rfl | rfl | rfl | rfl | rfl
  · exact ⟨_, rfl, by decide, _, am_wd_in 159 (by decide +kernel), Or.inl rfl⟩
  · exact ⟨_, rfl, by decide, _, am_wd_in 159 (by decide +kernel), Or.inl rfl⟩
  · exact ⟨_, rfl, by decide, _, am_wd_in 160 (by decide +kernel), Or.inl rfl⟩
  · exact ⟨_, rfl, by decide, _, am_wd_in 160 (by decide +kernel), Or.inl rfl⟩
  · exact ⟨_, rfl, by decide, _, am_wd_in 154 (by decide +kernel), Or.inl rfl⟩
  · exact ⟨_, rfl, by decide, _, am_wd_in 154 (by decide +kernel), Or.inl rfl⟩
  · exact ⟨_, rfl, by decide, _, am_wd_in 126 (by decide +kernel), Or.inl rfl⟩
  · exact ⟨_, rfl, by decide, _, am_wd_in 116 (by decide +kernel), Or.inl rfl⟩
  · exact ⟨_, rfl, by decide, _, am_wd_in 121 (by decide +kernel), Or.inl rfl⟩
  · exact ⟨_, rfl, by decide, _, am_wd_in 131 (by decide +kernel), Or.inl rfl⟩
theorem flok_me : ∀ q ∈ FL_me, am_fok "EarSchool$Metre" q := by
  intro q hq
  simp only [FL_me, List.mem_cons, List.not_mem_nil, or_false] at hq
  rcases hq with rfl | rfl | rfl | rfl | rfl | rfl | rfl
  · exact ⟨_, rfl, by decide, _, am_wd_in 189 (by decide +kernel), Or.inl rfl⟩
  · exact ⟨_, rfl, by decide, _, am_wd_in 190 (by decide +kernel), Or.inl rfl⟩
  · exact ⟨_, rfl, by decide, _, am_wd_in 192 (by decide +kernel), Or.inl rfl⟩
  · exact ⟨_, rfl, by decide, _, am_wd_in 194 (by decide +kernel), Or.inl rfl⟩
  · exact ⟨_, rfl, by decide, _, am_wd_in 196 (by decide +kernel), Or.inl rfl⟩
  · exact ⟨_, rfl, by decide, _, am_wd_in 198 (by decide +kernel), Or.inl rfl⟩
  · exact ⟨_, rfl, by decide, _, am_wd_in 94 (by decide +kernel), Or.inl rfl⟩
theorem flok_no : ∀ q ∈ FL_no, am_fok "EarSchool$Notes" q := by
  intro q hq
  simp only [FL_no, List.mem_cons, List.not_mem_nil, or_false] at hq
  rcases hq with rfl | rfl | rfl
  · exact ⟨_, rfl, by decide, _, am_wd_in 80 (by decide +kernel), Or.inl rfl⟩
  · exact ⟨_, rfl, by decide, _, am_wd_in 85 (by decide +kernel), Or.inl rfl⟩
  · exact ⟨_, rfl, by decide, _, am_wd_in 88 (by decide +kernel), Or.inl rfl⟩
theorem flok_pu : ∀ q ∈ FL_pu, am_fok "EarSchool$Pupils" q := by
  intro q hq
  simp only [FL_pu, List.mem_cons, List.not_mem_nil, or_false] at hq
  rcases hq with rfl | rfl | rfl | rfl | rfl | rfl
  · exact ⟨_, rfl, by decide, _, am_wd_in 302 (by decide +kernel), Or.inl rfl⟩
  · exact ⟨_, rfl, by decide, _, am_wd_in 304 (by decide +kernel), Or.inl rfl⟩
  · exact ⟨_, rfl, by decide, _, am_wd_in 267 (by decide +kernel), Or.inl rfl⟩
  · exact ⟨_, rfl, by decide, _, am_wd_in 260 (by decide +kernel), Or.inl rfl⟩
  · exact ⟨_, rfl, by decide, _, am_wd_in 91 (by decide +kernel), Or.inl rfl⟩
  · exact ⟨_, rfl, by decide, _, am_wd_in 81 (by decide +kernel), Or.inl rfl⟩
theorem flok_ru : ∀ q ∈ FL_ru, am_fok "EarSchool$Rule" q := by
  intro q hq
  simp only [FL_ru, List.mem_cons, List.not_mem_nil, or_false] at hq
  rcases hq with rfl | rfl | rfl | rfl | rfl | rfl
  · exact ⟨_, rfl, by decide, _, am_wd_in 110 (by decide +kernel), Or.inl rfl⟩
  · exact ⟨_, rfl, by decide, _, am_wd_in 112 (by decide +kernel), Or.inl rfl⟩
  · exact ⟨_, rfl, by decide, _, am_wd_in 117 (by decide +kernel), Or.inl rfl⟩
  · exact ⟨_, rfl, by decide, _, am_wd_in 122 (by decide +kernel), Or.inl rfl⟩
  · exact ⟨_, rfl, by decide, _, am_wd_in 127 (by decide +kernel), Or.inl rfl⟩
  · exact ⟨_, rfl, by decide, _, am_wd_in 129 (by decide +kernel), Or.inl rfl⟩
theorem flok_wt : ∀ q ∈ FL_wt, am_fok "EarSchool$WeightTable" q := by
  intro q hq
  simp only [FL_wt, List.mem_cons, List.not_mem_nil, or_false] at hq
  rcases hq with rfl | rfl | rfl | rfl | rfl | rfl
  · exact ⟨_, rfl, by decide, _, am_wd_in 175 (by decide +kernel), Or.inl rfl⟩
  · exact ⟨_, rfl, by decide, _, am_wd_in 157 (by decide +kernel), Or.inr (am_wd_in 158 (by decide +kernel))⟩
  · exact ⟨_, rfl, by decide, _, am_wd_in 115 (by decide +kernel), Or.inl rfl⟩
  · exact ⟨_, rfl, by decide, _, am_wd_in 93 (by decide +kernel), Or.inl rfl⟩
  · exact ⟨_, rfl, by decide, _, am_wd_in 125 (by decide +kernel), Or.inl rfl⟩
  · exact ⟨_, rfl, by decide, _, am_wd_in 119 (by decide +kernel), Or.inl rfl⟩
theorem flok_la : ∀ q ∈ FL_la, am_fok "EarSchoolLaw" q := fun q hq => absurd hq List.not_mem_nil
theorem flok_mo : ∀ q ∈ FL_mo, am_fok "EarSchoolModel" q := by
  intro q hq
  simp only [FL_mo, List.mem_cons, List.not_mem_nil, or_false] at hq
  rcases hq with rfl | rfl | rfl | rfl | rfl | rfl | rfl | rfl | rfl | rfl | rfl | rfl | rfl | rfl | rfl | rfl | rfl | rfl | rfl | rfl | rfl | rfl | rfl | rfl | rfl | rfl | rfl | rfl | rfl | rfl | rfl | rfl | rfl | rfl | rfl | rfl | rfl | rfl
  · exact ⟨_, rfl, by decide, _, am_wd_in 794 (by decide +kernel), Or.inl rfl⟩
  · exact ⟨_, rfl, by decide, _, am_wd_in 795 (by decide +kernel), Or.inl rfl⟩
  · exact ⟨_, rfl, by decide, _, am_wd_in 797 (by decide +kernel), Or.inl rfl⟩
  · exact ⟨_, rfl, by decide, _, am_wd_in 798 (by decide +kernel), Or.inl rfl⟩
  · exact ⟨_, rfl, by decide, _, am_wd_in 800 (by decide +kernel), Or.inl rfl⟩
  · exact ⟨_, rfl, by decide, _, am_wd_in 801 (by decide +kernel), Or.inl rfl⟩
  · exact ⟨_, rfl, by decide, _, am_wd_in 802 (by decide +kernel), Or.inl rfl⟩
  · exact ⟨_, rfl, by decide, _, am_wd_in 803 (by decide +kernel), Or.inl rfl⟩
  · exact ⟨_, rfl, by decide, _, am_wd_in 804 (by decide +kernel), Or.inl rfl⟩
  · exact ⟨_, rfl, by decide, _, am_wd_in 805 (by decide +kernel), Or.inl rfl⟩
  · exact ⟨_, rfl, by decide, _, am_wd_in 806 (by decide +kernel), Or.inl rfl⟩
  · exact ⟨_, rfl, by decide, _, am_wd_in 807 (by decide +kernel), Or.inl rfl⟩
  · exact ⟨_, rfl, by decide, _, am_wd_in 808 (by decide +kernel), Or.inl rfl⟩
  · exact ⟨_, rfl, by decide, _, am_wd_in 809 (by decide +kernel), Or.inl rfl⟩
  · exact ⟨_, rfl, by decide, _, am_wd_in 810 (by decide +kernel), Or.inl rfl⟩
  · exact ⟨_, rfl, by decide, _, am_wd_in 811 (by decide +kernel), Or.inl rfl⟩
  · exact ⟨_, rfl, by decide, _, am_wd_in 814 (by decide +kernel), Or.inl rfl⟩
  · exact ⟨_, rfl, by decide, _, am_wd_in 815 (by decide +kernel), Or.inl rfl⟩
  · exact ⟨_, rfl, by decide, _, am_wd_in 816 (by decide +kernel), Or.inl rfl⟩
  · exact ⟨_, rfl, by decide, _, am_wd_in 817 (by decide +kernel), Or.inl rfl⟩
  · exact ⟨_, rfl, by decide, _, am_wd_in 818 (by decide +kernel), Or.inl rfl⟩
  · exact ⟨_, rfl, by decide, _, am_wd_in 819 (by decide +kernel), Or.inl rfl⟩
  · exact ⟨_, rfl, by decide, _, am_wd_in 820 (by decide +kernel), Or.inl rfl⟩
  · exact ⟨_, rfl, by decide, _, am_wd_in 821 (by decide +kernel), Or.inl rfl⟩
  · exact ⟨_, rfl, by decide, _, am_wd_in 822 (by decide +kernel), Or.inl rfl⟩
  · exact ⟨_, rfl, by decide, _, am_wd_in 823 (by decide +kernel), Or.inl rfl⟩
  · exact ⟨_, rfl, by decide, _, am_wd_in 824 (by decide +kernel), Or.inl rfl⟩
  · exact ⟨_, rfl, by decide, _, am_wd_in 826 (by decide +kernel), Or.inl rfl⟩
  · exact ⟨_, rfl, by decide, _, am_wd_in 827 (by decide +kernel), Or.inl rfl⟩
  · exact ⟨_, rfl, by decide, _, am_wd_in 828 (by decide +kernel), Or.inl rfl⟩
  · exact ⟨_, rfl, by decide, _, am_wd_in 829 (by decide +kernel), Or.inl rfl⟩
  · exact ⟨_, rfl, by decide, _, am_wd_in 830 (by decide +kernel), Or.inl rfl⟩
  · exact ⟨_, rfl, by decide, _, am_wd_in 793 (by decide +kernel), Or.inl rfl⟩
  · exact ⟨_, rfl, by decide, _, am_wd_in 799 (by decide +kernel), Or.inl rfl⟩
  · exact ⟨_, rfl, by decide, _, am_wd_in 812 (by decide +kernel), Or.inl rfl⟩
  · exact ⟨_, rfl, by decide, _, am_wd_in 813 (by decide +kernel), Or.inl rfl⟩
  · exact ⟨_, rfl, by decide, _, am_wd_in 796 (by decide +kernel), Or.inl rfl⟩
  · exact ⟨_, rfl, by decide, _, am_wd_in 825 (by decide +kernel), Or.inl rfl⟩
theorem flok_ig : ∀ q ∈ FL_ig, am_fok "java/lang/Integer" q := fun q hq => absurd hq List.not_mem_nil
theorem flok_ma : ∀ q ∈ FL_ma, am_fok "java/lang/Math" q := fun q hq => absurd hq List.not_mem_nil
theorem ok_es_note : am_yok Y_es_note := ⟨⟨by decide +kernel, flok_es⟩, by decide +kernel, by decide, am_wd_in 342 (by decide +kernel)⟩
theorem ok_es_drop : am_yok Y_es_drop := ⟨⟨by decide +kernel, flok_es⟩, by decide +kernel, by decide, am_wd_in 357 (by decide +kernel)⟩
theorem ok_es_at : am_yok Y_es_at := ⟨⟨by decide +kernel, flok_es⟩, by decide +kernel, by decide, am_wd_in 361 (by decide +kernel)⟩
theorem ok_es_range : am_yok Y_es_range := ⟨⟨by decide +kernel, flok_es⟩, by decide +kernel, by decide, am_wd_in 365 (by decide +kernel)⟩
theorem ok_es_bits : am_yok Y_es_bits := ⟨⟨by decide +kernel, flok_es⟩, by decide +kernel, by decide, am_wd_in 375 (by decide +kernel)⟩
theorem ok_es_bound : am_yok Y_es_bound := ⟨⟨by decide +kernel, flok_es⟩, by decide +kernel, by decide, am_wd_in 380 (by decide +kernel)⟩
theorem ok_es_melodies : am_yok Y_es_melodies := ⟨⟨by decide +kernel, flok_es⟩, by decide +kernel, by decide, am_wd_in 384 (by decide +kernel)⟩
theorem ok_es_melody : am_yok Y_es_melody := ⟨⟨by decide +kernel, flok_es⟩, by decide +kernel, by decide, am_wd_in 498 (by decide +kernel)⟩
theorem ok_es_place : am_yok Y_es_place := ⟨⟨by decide +kernel, flok_es⟩, by decide +kernel, by decide, am_wd_in 519 (by decide +kernel)⟩
theorem ok_es_bars : am_yok Y_es_bars := ⟨⟨by decide +kernel, flok_es⟩, by decide +kernel, by decide, am_wd_in 528 (by decide +kernel)⟩
theorem ok_es_some : am_yok Y_es_some := ⟨⟨by decide +kernel, flok_es⟩, by decide +kernel, by decide, am_wd_in 532 (by decide +kernel)⟩
theorem ok_es_rhythms : am_yok Y_es_rhythms := ⟨⟨by decide +kernel, flok_es⟩, by decide +kernel, by decide, am_wd_in 548 (by decide +kernel)⟩
theorem ok_es_rhythm : am_yok Y_es_rhythm := ⟨⟨by decide +kernel, flok_es⟩, by decide +kernel, by decide, am_wd_in 574 (by decide +kernel)⟩
theorem ok_es_mask : am_yok Y_es_mask := ⟨⟨by decide +kernel, flok_es⟩, by decide +kernel, by decide, am_wd_in 583 (by decide +kernel)⟩
theorem ok_es_clear : am_yok Y_es_clear := ⟨⟨by decide +kernel, flok_es⟩, by decide +kernel, by decide, am_wd_in 593 (by decide +kernel)⟩
theorem ok_es_voice : am_yok Y_es_voice := ⟨⟨by decide +kernel, flok_es⟩, by decide +kernel, by decide, am_wd_in 597 (by decide +kernel)⟩
theorem ok_es_chords : am_yok Y_es_chords := ⟨⟨by decide +kernel, flok_es⟩, by decide +kernel, by decide, am_wd_in 601 (by decide +kernel)⟩
theorem ok_es_chord : am_yok Y_es_chord := ⟨⟨by decide +kernel, flok_es⟩, by decide +kernel, by decide, am_wd_in 644 (by decide +kernel)⟩
theorem ok_es_meant : am_yok Y_es_meant := ⟨⟨by decide +kernel, flok_es⟩, by decide +kernel, by decide, am_wd_in 653 (by decide +kernel)⟩
theorem ok_es_judge : am_yok Y_es_judge := ⟨⟨by decide +kernel, flok_es⟩, by decide +kernel, by decide, am_wd_in 662 (by decide +kernel)⟩
theorem ok_es_act : am_yok Y_es_act := ⟨⟨by decide +kernel, flok_es⟩, by decide +kernel, by decide, am_wd_in 729 (by decide +kernel)⟩
theorem ok_es_learn : am_yok Y_es_learn := ⟨⟨by decide +kernel, flok_es⟩, by decide +kernel, by decide, am_wd_in 733 (by decide +kernel)⟩
theorem ok_es_table : am_yok Y_es_table := ⟨⟨by decide +kernel, flok_es⟩, by decide +kernel, by decide, am_wd_in 748 (by decide +kernel)⟩
theorem ok_es_drill : am_yok Y_es_drill := ⟨⟨by decide +kernel, flok_es⟩, by decide +kernel, by decide, am_wd_in 756 (by decide +kernel)⟩
theorem ok_es_count : am_yok Y_es_count := ⟨⟨by decide +kernel, flok_es⟩, by decide +kernel, by decide, am_wd_in 785 (by decide +kernel)⟩
theorem ok_es_outside : am_yok Y_es_outside := ⟨⟨by decide +kernel, flok_es⟩, by decide +kernel, by decide, am_wd_in 345 (by decide +kernel)⟩
theorem ok_es_cappedSum : am_yok Y_es_cappedSum := ⟨⟨by decide +kernel, flok_es⟩, by decide +kernel, by decide, am_wd_in 477 (by decide +kernel)⟩
theorem ok_es_hasClass : am_yok Y_es_hasClass := ⟨⟨by decide +kernel, flok_es⟩, by decide +kernel, by decide, am_wd_in 401 (by decide +kernel)⟩
theorem ok_mo_in : am_yok Y_mo_in := ⟨⟨by decide +kernel, flok_mo⟩, by decide +kernel, by decide, am_wd_in 916 (by decide +kernel)⟩
theorem ok_mo_plus : am_yok Y_mo_plus := ⟨⟨by decide +kernel, flok_mo⟩, by decide +kernel, by decide, am_wd_in 974 (by decide +kernel)⟩
theorem ok_mo_note : am_yok Y_mo_note := ⟨⟨by decide +kernel, flok_mo⟩, by decide +kernel, by decide, am_wd_in 912 (by decide +kernel)⟩
theorem ok_mo_drop : am_yok Y_mo_drop := ⟨⟨by decide +kernel, flok_mo⟩, by decide +kernel, by decide, am_wd_in 921 (by decide +kernel)⟩
theorem ok_mo_at : am_yok Y_mo_at := ⟨⟨by decide +kernel, flok_mo⟩, by decide +kernel, by decide, am_wd_in 925 (by decide +kernel)⟩
theorem ok_mo_range : am_yok Y_mo_range := ⟨⟨by decide +kernel, flok_mo⟩, by decide +kernel, by decide, am_wd_in 929 (by decide +kernel)⟩
theorem ok_mo_bits : am_yok Y_mo_bits := ⟨⟨by decide +kernel, flok_mo⟩, by decide +kernel, by decide, am_wd_in 934 (by decide +kernel)⟩
theorem ok_mo_bound : am_yok Y_mo_bound := ⟨⟨by decide +kernel, flok_mo⟩, by decide +kernel, by decide, am_wd_in 941 (by decide +kernel)⟩
theorem ok_mo_hasClass : am_yok Y_mo_hasClass := ⟨⟨by decide +kernel, flok_mo⟩, by decide +kernel, by decide, am_wd_in 961 (by decide +kernel)⟩
theorem ok_mo_fits : am_yok Y_mo_fits := ⟨⟨by decide +kernel, flok_mo⟩, by decide +kernel, by decide, am_wd_in 958 (by decide +kernel)⟩
theorem ok_mo_behind : am_yok Y_mo_behind := ⟨⟨by decide +kernel, flok_mo⟩, by decide +kernel, by decide, am_wd_in 969 (by decide +kernel)⟩
theorem ok_mo_cellAt : am_yok Y_mo_cellAt := ⟨⟨by decide +kernel, flok_mo⟩, by decide +kernel, by decide, am_wd_in 954 (by decide +kernel)⟩
theorem ok_mo_countWays : am_yok Y_mo_countWays := ⟨⟨by decide +kernel, flok_mo⟩, by decide +kernel, by decide, am_wd_in 951 (by decide +kernel)⟩
theorem ok_mo_waysOn : am_yok Y_mo_waysOn := ⟨⟨by decide +kernel, flok_mo⟩, by decide +kernel, by decide, am_wd_in 965 (by decide +kernel)⟩
theorem ok_mo_melodies : am_yok Y_mo_melodies := ⟨⟨by decide +kernel, flok_mo⟩, by decide +kernel, by decide, am_wd_in 947 (by decide +kernel)⟩
theorem ok_mo_lay : am_yok Y_mo_lay := ⟨⟨by decide +kernel, flok_mo⟩, by decide +kernel, by decide, am_wd_in 984 (by decide +kernel)⟩
theorem ok_mo_laid : am_yok Y_mo_laid := ⟨⟨by decide +kernel, flok_mo⟩, by decide +kernel, by decide, am_wd_in 988 (by decide +kernel)⟩
theorem ok_mo_melody : am_yok Y_mo_melody := ⟨⟨by decide +kernel, flok_mo⟩, by decide +kernel, by decide, am_wd_in 979 (by decide +kernel)⟩
theorem ok_mo_place : am_yok Y_mo_place := ⟨⟨by decide +kernel, flok_mo⟩, by decide +kernel, by decide, am_wd_in 992 (by decide +kernel)⟩
theorem ok_mo_bars : am_yok Y_mo_bars := ⟨⟨by decide +kernel, flok_mo⟩, by decide +kernel, by decide, am_wd_in 997 (by decide +kernel)⟩
theorem ok_mo_some : am_yok Y_mo_some := ⟨⟨by decide +kernel, flok_mo⟩, by decide +kernel, by decide, am_wd_in 1002 (by decide +kernel)⟩
theorem ok_mo_goes : am_yok Y_mo_goes := ⟨⟨by decide +kernel, flok_mo⟩, by decide +kernel, by decide, am_wd_in 1014 (by decide +kernel)⟩
theorem ok_mo_countFills : am_yok Y_mo_countFills := ⟨⟨by decide +kernel, flok_mo⟩, by decide +kernel, by decide, am_wd_in 1010 (by decide +kernel)⟩
theorem ok_mo_rhythms : am_yok Y_mo_rhythms := ⟨⟨by decide +kernel, flok_mo⟩, by decide +kernel, by decide, am_wd_in 1006 (by decide +kernel)⟩
theorem ok_mo_rhythm : am_yok Y_mo_rhythm := ⟨⟨by decide +kernel, flok_mo⟩, by decide +kernel, by decide, am_wd_in 1018 (by decide +kernel)⟩
theorem ok_mo_mask : am_yok Y_mo_mask := ⟨⟨by decide +kernel, flok_mo⟩, by decide +kernel, by decide, am_wd_in 1023 (by decide +kernel)⟩
theorem ok_mo_clear : am_yok Y_mo_clear := ⟨⟨by decide +kernel, flok_mo⟩, by decide +kernel, by decide, am_wd_in 1027 (by decide +kernel)⟩
theorem ok_mo_voice : am_yok Y_mo_voice := ⟨⟨by decide +kernel, flok_mo⟩, by decide +kernel, by decide, am_wd_in 1031 (by decide +kernel)⟩
theorem ok_mo_pitchOf : am_yok Y_mo_pitchOf := ⟨⟨by decide +kernel, flok_mo⟩, by decide +kernel, by decide, am_wd_in 1052 (by decide +kernel)⟩
theorem ok_mo_findThrees : am_yok Y_mo_findThrees := ⟨⟨by decide +kernel, flok_mo⟩, by decide +kernel, by decide, am_wd_in 1044 (by decide +kernel)⟩
theorem ok_mo_follows : am_yok Y_mo_follows := ⟨⟨by decide +kernel, flok_mo⟩, by decide +kernel, by decide, am_wd_in 1048 (by decide +kernel)⟩
theorem ok_mo_countChords : am_yok Y_mo_countChords := ⟨⟨by decide +kernel, flok_mo⟩, by decide +kernel, by decide, am_wd_in 1040 (by decide +kernel)⟩
theorem ok_mo_chords : am_yok Y_mo_chords := ⟨⟨by decide +kernel, flok_mo⟩, by decide +kernel, by decide, am_wd_in 1036 (by decide +kernel)⟩
theorem ok_mo_chord : am_yok Y_mo_chord := ⟨⟨by decide +kernel, flok_mo⟩, by decide +kernel, by decide, am_wd_in 1056 (by decide +kernel)⟩
theorem ok_mo_meant : am_yok Y_mo_meant := ⟨⟨by decide +kernel, flok_mo⟩, by decide +kernel, by decide, am_wd_in 1062 (by decide +kernel)⟩
theorem ok_mo_costAt : am_yok Y_mo_costAt := ⟨⟨by decide +kernel, flok_mo⟩, by decide +kernel, by decide, am_wd_in 1069 (by decide +kernel)⟩
theorem ok_mo_hitCost : am_yok Y_mo_hitCost := ⟨⟨by decide +kernel, flok_mo⟩, by decide +kernel, by decide, am_wd_in 1081 (by decide +kernel)⟩
theorem ok_mo_moreCost : am_yok Y_mo_moreCost := ⟨⟨by decide +kernel, flok_mo⟩, by decide +kernel, by decide, am_wd_in 1085 (by decide +kernel)⟩
theorem ok_mo_by : am_yok Y_mo_by := ⟨⟨by decide +kernel, flok_mo⟩, by decide +kernel, by decide, am_wd_in 1077 (by decide +kernel)⟩
theorem ok_mo_leastAt : am_yok Y_mo_leastAt := ⟨⟨by decide +kernel, flok_mo⟩, by decide +kernel, by decide, am_wd_in 1073 (by decide +kernel)⟩
theorem ok_mo_layAct : am_yok Y_mo_layAct := ⟨⟨by decide +kernel, flok_mo⟩, by decide +kernel, by decide, am_wd_in 1089 (by decide +kernel)⟩
theorem ok_mo_judge : am_yok Y_mo_judge := ⟨⟨by decide +kernel, flok_mo⟩, by decide +kernel, by decide, am_wd_in 1066 (by decide +kernel)⟩
theorem ok_mo_act : am_yok Y_mo_act := ⟨⟨by decide +kernel, flok_mo⟩, by decide +kernel, by decide, am_wd_in 1093 (by decide +kernel)⟩
theorem ok_mo_learn : am_yok Y_mo_learn := ⟨⟨by decide +kernel, flok_mo⟩, by decide +kernel, by decide, am_wd_in 1097 (by decide +kernel)⟩
theorem ok_mo_weight : am_yok Y_mo_weight := ⟨⟨by decide +kernel, flok_mo⟩, by decide +kernel, by decide, am_wd_in 1106 (by decide +kernel)⟩
theorem ok_mo_table : am_yok Y_mo_table := ⟨⟨by decide +kernel, flok_mo⟩, by decide +kernel, by decide, am_wd_in 1102 (by decide +kernel)⟩
theorem ok_mo_bestOn : am_yok Y_mo_bestOn := ⟨⟨by decide +kernel, flok_mo⟩, by decide +kernel, by decide, am_wd_in 1114 (by decide +kernel)⟩
theorem ok_mo_goingOn : am_yok Y_mo_goingOn := ⟨⟨by decide +kernel, flok_mo⟩, by decide +kernel, by decide, am_wd_in 1118 (by decide +kernel)⟩
theorem ok_mo_drill : am_yok Y_mo_drill := ⟨⟨by decide +kernel, flok_mo⟩, by decide +kernel, by decide, am_wd_in 1110 (by decide +kernel)⟩
theorem ok_mo_count : am_yok Y_mo_count := ⟨⟨by decide +kernel, flok_mo⟩, by decide +kernel, by decide, am_wd_in 1122 (by decide +kernel)⟩
theorem ok_ct_ofNone : am_yok Y_ct_ofNone := ⟨⟨by decide +kernel, flok_ct⟩, by decide +kernel, by decide, am_wd_in 407 (by decide +kernel)⟩
theorem ok_ct_ofEnd : am_yok Y_ct_ofEnd := ⟨⟨by decide +kernel, flok_ct⟩, by decide +kernel, by decide, am_wd_in 430 (by decide +kernel)⟩
theorem ok_ct_together : am_yok Y_ct_together := ⟨⟨by decide +kernel, flok_ct⟩, by decide +kernel, by decide, am_wd_in 474 (by decide +kernel)⟩
theorem ok_ct_stepped : am_yok Y_ct_stepped := ⟨⟨by decide +kernel, flok_ct⟩, by decide +kernel, by decide, am_wd_in 461 (by decide +kernel)⟩
theorem ok_ct_spell : am_yok Y_ct_spell := ⟨⟨by decide +kernel, flok_ct⟩, by decide +kernel, by decide, am_wd_in 502 (by decide +kernel)⟩
theorem ok_ct_ahead : am_yok Y_ct_ahead := ⟨⟨by decide +kernel, flok_ct⟩, by decide +kernel, by decide, am_wd_in 524 (by decide +kernel)⟩
theorem ok_ha_fill : am_yok Y_ha_fill := ⟨⟨by decide +kernel, flok_ha⟩, by decide +kernel, by decide, am_wd_in 605 (by decide +kernel)⟩
theorem ok_ha_findThrees : am_yok Y_ha_findThrees := ⟨⟨by decide +kernel, flok_ha⟩, by decide +kernel, by decide, am_wd_in 609 (by decide +kernel)⟩
theorem ok_ha_findAbove : am_yok Y_ha_findAbove := ⟨⟨by decide +kernel, flok_ha⟩, by decide +kernel, by decide, am_wd_in 614 (by decide +kernel)⟩
theorem ok_ha_waysBehind : am_yok Y_ha_waysBehind := ⟨⟨by decide +kernel, flok_ha⟩, by decide +kernel, by decide, am_wd_in 621 (by decide +kernel)⟩
theorem ok_ha_mayFollow : am_yok Y_ha_mayFollow := ⟨⟨by decide +kernel, flok_ha⟩, by decide +kernel, by decide, am_wd_in 625 (by decide +kernel)⟩
theorem ok_ha_parallel : am_yok Y_ha_parallel := ⟨⟨by decide +kernel, flok_ha⟩, by decide +kernel, by decide, am_wd_in 635 (by decide +kernel)⟩
theorem ok_ha_pitchOf : am_yok Y_ha_pitchOf := ⟨⟨by decide +kernel, flok_ha⟩, by decide +kernel, by decide, am_wd_in 629 (by decide +kernel)⟩
theorem ok_ha_total : am_yok Y_ha_total := ⟨⟨by decide +kernel, flok_ha⟩, by decide +kernel, by decide, am_wd_in 640 (by decide +kernel)⟩
theorem ok_ha_threeOf : am_yok Y_ha_threeOf := ⟨⟨by decide +kernel, flok_ha⟩, by decide +kernel, by decide, am_wd_in 648 (by decide +kernel)⟩
theorem ok_ju_forget : am_yok Y_ju_forget := ⟨⟨by decide +kernel, flok_ju⟩, by decide +kernel, by decide, am_wd_in 353 (by decide +kernel)⟩
theorem ok_ju_settle : am_yok Y_ju_settle := ⟨⟨by decide +kernel, flok_ju⟩, by decide +kernel, by decide, am_wd_in 666 (by decide +kernel)⟩
theorem ok_ju_fillBorder : am_yok Y_ju_fillBorder := ⟨⟨by decide +kernel, flok_ju⟩, by decide +kernel, by decide, am_wd_in 670 (by decide +kernel)⟩
theorem ok_ju_fillInside : am_yok Y_ju_fillInside := ⟨⟨by decide +kernel, flok_ju⟩, by decide +kernel, by decide, am_wd_in 713 (by decide +kernel)⟩
theorem ok_ju_index : am_yok Y_ju_index := ⟨⟨by decide +kernel, flok_ju⟩, by decide +kernel, by decide, am_wd_in 674 (by decide +kernel)⟩
theorem ok_ju_from : am_yok Y_ju_from := ⟨⟨by decide +kernel, flok_ju⟩, by decide +kernel, by decide, am_wd_in 695 (by decide +kernel)⟩
theorem ok_ju_unshifted : am_yok Y_ju_unshifted := ⟨⟨by decide +kernel, flok_ju⟩, by decide +kernel, by decide, am_wd_in 678 (by decide +kernel)⟩
theorem ok_ju_byHit : am_yok Y_ju_byHit := ⟨⟨by decide +kernel, flok_ju⟩, by decide +kernel, by decide, am_wd_in 682 (by decide +kernel)⟩
theorem ok_ju_byLost : am_yok Y_ju_byLost := ⟨⟨by decide +kernel, flok_ju⟩, by decide +kernel, by decide, am_wd_in 700 (by decide +kernel)⟩
theorem ok_ju_byMore : am_yok Y_ju_byMore := ⟨⟨by decide +kernel, flok_ju⟩, by decide +kernel, by decide, am_wd_in 704 (by decide +kernel)⟩
theorem ok_ju_hitCost : am_yok Y_ju_hitCost := ⟨⟨by decide +kernel, flok_ju⟩, by decide +kernel, by decide, am_wd_in 687 (by decide +kernel)⟩
theorem ok_ju_lengthCost : am_yok Y_ju_lengthCost := ⟨⟨by decide +kernel, flok_ju⟩, by decide +kernel, by decide, am_wd_in 691 (by decide +kernel)⟩
theorem ok_ju_moreCost : am_yok Y_ju_moreCost := ⟨⟨by decide +kernel, flok_ju⟩, by decide +kernel, by decide, am_wd_in 708 (by decide +kernel)⟩
theorem ok_ju_readActs : am_yok Y_ju_readActs := ⟨⟨by decide +kernel, flok_ju⟩, by decide +kernel, by decide, am_wd_in 717 (by decide +kernel)⟩
theorem ok_ju_nextAct : am_yok Y_ju_nextAct := ⟨⟨by decide +kernel, flok_ju⟩, by decide +kernel, by decide, am_wd_in 721 (by decide +kernel)⟩
theorem ok_ju_push : am_yok Y_ju_push := ⟨⟨by decide +kernel, flok_ju⟩, by decide +kernel, by decide, am_wd_in 725 (by decide +kernel)⟩
theorem ok_ju_missed : am_yok Y_ju_missed := ⟨⟨by decide +kernel, flok_ju⟩, by decide +kernel, by decide, am_wd_in 744 (by decide +kernel)⟩
theorem ok_mt_forget : am_yok Y_mt_forget := ⟨⟨by decide +kernel, flok_mt⟩, by decide +kernel, by decide, am_wd_in 371 (by decide +kernel)⟩
theorem ok_mt_fill : am_yok Y_mt_fill := ⟨⟨by decide +kernel, flok_mt⟩, by decide +kernel, by decide, am_wd_in 390 (by decide +kernel)⟩
theorem ok_mt_fillPitch : am_yok Y_mt_fillPitch := ⟨⟨by decide +kernel, flok_mt⟩, by decide +kernel, by decide, am_wd_in 394 (by decide +kernel)⟩
theorem ok_mt_fillStates : am_yok Y_mt_fillStates := ⟨⟨by decide +kernel, flok_mt⟩, by decide +kernel, by decide, am_wd_in 415 (by decide +kernel)⟩
theorem ok_mt_index : am_yok Y_mt_index := ⟨⟨by decide +kernel, flok_mt⟩, by decide +kernel, by decide, am_wd_in 423 (by decide +kernel)⟩
theorem ok_mt_put : am_yok Y_mt_put := ⟨⟨by decide +kernel, flok_mt⟩, by decide +kernel, by decide, am_wd_in 419 (by decide +kernel)⟩
theorem ok_mt_from : am_yok Y_mt_from := ⟨⟨by decide +kernel, flok_mt⟩, by decide +kernel, by decide, am_wd_in 455 (by decide +kernel)⟩
theorem ok_mt_byStep : am_yok Y_mt_byStep := ⟨⟨by decide +kernel, flok_mt⟩, by decide +kernel, by decide, am_wd_in 437 (by decide +kernel)⟩
theorem ok_mt_onward : am_yok Y_mt_onward := ⟨⟨by decide +kernel, flok_mt⟩, by decide +kernel, by decide, am_wd_in 508 (by decide +kernel)⟩
theorem ok_mt_stateAt : am_yok Y_mt_stateAt := ⟨⟨by decide +kernel, flok_mt⟩, by decide +kernel, by decide, am_wd_in 514 (by decide +kernel)⟩
theorem ok_mt_total : am_yok Y_mt_total := ⟨⟨by decide +kernel, flok_mt⟩, by decide +kernel, by decide, am_wd_in 494 (by decide +kernel)⟩
theorem ok_me_has : am_yok Y_me_has := ⟨⟨by decide +kernel, flok_me⟩, by decide +kernel, by decide, am_wd_in 536 (by decide +kernel)⟩
theorem ok_me_add : am_yok Y_me_add := ⟨⟨by decide +kernel, flok_me⟩, by decide +kernel, by decide, am_wd_in 540 (by decide +kernel)⟩
theorem ok_me_remove : am_yok Y_me_remove := ⟨⟨by decide +kernel, flok_me⟩, by decide +kernel, by decide, am_wd_in 544 (by decide +kernel)⟩
theorem ok_me_fill : am_yok Y_me_fill := ⟨⟨by decide +kernel, flok_me⟩, by decide +kernel, by decide, am_wd_in 552 (by decide +kernel)⟩
theorem ok_me_fillBar : am_yok Y_me_fillBar := ⟨⟨by decide +kernel, flok_me⟩, by decide +kernel, by decide, am_wd_in 556 (by decide +kernel)⟩
theorem ok_me_put : am_yok Y_me_put := ⟨⟨by decide +kernel, flok_me⟩, by decide +kernel, by decide, am_wd_in 566 (by decide +kernel)⟩
theorem ok_me_onward : am_yok Y_me_onward := ⟨⟨by decide +kernel, flok_me⟩, by decide +kernel, by decide, am_wd_in 560 (by decide +kernel)⟩
theorem ok_me_total : am_yok Y_me_total := ⟨⟨by decide +kernel, flok_me⟩, by decide +kernel, by decide, am_wd_in 570 (by decide +kernel)⟩
theorem ok_me_spell : am_yok Y_me_spell := ⟨⟨by decide +kernel, flok_me⟩, by decide +kernel, by decide, am_wd_in 578 (by decide +kernel)⟩
theorem ok_no_push : am_yok Y_no_push := ⟨⟨by decide +kernel, flok_no⟩, by decide +kernel, by decide, am_wd_in 349 (by decide +kernel)⟩
theorem ok_no_copy : am_yok Y_no_copy := ⟨⟨by decide +kernel, flok_no⟩, by decide +kernel, by decide, am_wd_in 657 (by decide +kernel)⟩
theorem ok_pu_weight : am_yok Y_pu_weight := ⟨⟨by decide +kernel, flok_pu⟩, by decide +kernel, by decide, am_wd_in 752 (by decide +kernel)⟩
theorem ok_pu_enter : am_yok Y_pu_enter := ⟨⟨by decide +kernel, flok_pu⟩, by decide +kernel, by decide, am_wd_in 737 (by decide +kernel)⟩
theorem ok_ru_mayStand : am_yok Y_ru_mayStand := ⟨⟨by decide +kernel, flok_ru⟩, by decide +kernel, by decide, am_wd_in 398 (by decide +kernel)⟩
theorem ok_ru_mayStep : am_yok Y_ru_mayStep := ⟨⟨by decide +kernel, flok_ru⟩, by decide +kernel, by decide, am_wd_in 441 (by decide +kernel)⟩
theorem ok_ru_stateBehind : am_yok Y_ru_stateBehind := ⟨⟨by decide +kernel, flok_ru⟩, by decide +kernel, by decide, am_wd_in 446 (by decide +kernel)⟩
theorem ok_wt_ofNone : am_yok Y_wt_ofNone := ⟨⟨by decide +kernel, flok_wt⟩, by decide +kernel, by decide, am_wd_in 410 (by decide +kernel)⟩
theorem ok_wt_ofEnd : am_yok Y_wt_ofEnd := ⟨⟨by decide +kernel, flok_wt⟩, by decide +kernel, by decide, am_wd_in 433 (by decide +kernel)⟩
theorem ok_wt_together : am_yok Y_wt_together := ⟨⟨by decide +kernel, flok_wt⟩, by decide +kernel, by decide, am_wd_in 484 (by decide +kernel)⟩
theorem ok_wt_stepped : am_yok Y_wt_stepped := ⟨⟨by decide +kernel, flok_wt⟩, by decide +kernel, by decide, am_wd_in 464 (by decide +kernel)⟩
theorem ok_wt_spell : am_yok Y_wt_spell := ⟨⟨by decide +kernel, flok_wt⟩, by decide +kernel, by decide, am_wd_in 769 (by decide +kernel)⟩
theorem chk_la_law : am_chk Y_la_law := ⟨by decide +kernel, flok_la⟩
theorem ok_ig_bitCount : am_yok Y_ig_bitCount := ⟨⟨by decide +kernel, flok_ig⟩, by decide +kernel, by decide, am_wd_in 586 (by decide +kernel)⟩
theorem ok_ma_abs : am_yok Y_ma_abs := ⟨⟨by decide +kernel, flok_ma⟩, by decide +kernel, by decide, am_wd_in 467 (by decide +kernel)⟩
theorem ok_ma_max_I : am_yok Y_ma_max_I := ⟨⟨by decide +kernel, flok_ma⟩, by decide +kernel, by decide, am_wd_in 617 (by decide +kernel)⟩
theorem ok_ma_max_J : am_yok Y_ma_max_J := ⟨⟨by decide +kernel, flok_ma⟩, by decide +kernel, by decide, am_wd_in 487 (by decide +kernel)⟩
theorem ok_ma_min_I : am_yok Y_ma_min_I := ⟨⟨by decide +kernel, flok_ma⟩, by decide +kernel, by decide, am_wd_in 449 (by decide +kernel)⟩
theorem ok_ma_min_J : am_yok Y_ma_min_J := ⟨⟨by decide +kernel, flok_ma⟩, by decide +kernel, by decide, am_wd_in 481 (by decide +kernel)⟩
