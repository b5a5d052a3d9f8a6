theorem tc_0 {w : Cond} (j : Nat) (h : (k2_sels lw_privs)[j]? = some w) (hg : goodWord w = true) : w ∈ tblG := List.mem_filter.mpr ⟨List.mem_append_left _ (List.mem_of_getElem? h), hg⟩
theorem tc_1 {w : Cond} (j : Nat) (h : tables_1_1[j]? = some w) (hg : goodWord w = true) : w ∈ tblG := List.mem_filter.mpr ⟨List.mem_append_right _ (by unfold tables_1; exact List.mem_append_left _ (List.mem_of_getElem? h)), hg⟩
theorem tc_2 {w : Cond} (j : Nat) (h : tables_1_2[j]? = some w) (hg : goodWord w = true) : w ∈ tblG := List.mem_filter.mpr ⟨List.mem_append_right _ (by unfold tables_1; exact List.mem_append_right _ (List.mem_append_left _ (List.mem_of_getElem? h))), hg⟩
theorem tc_3 {w : Cond} (j : Nat) (h : tables_1_3[j]? = some w) (hg : goodWord w = true) : w ∈ tblG := List.mem_filter.mpr ⟨List.mem_append_right _ (by unfold tables_1; exact List.mem_append_right _ (List.mem_append_right _ (List.mem_append_left _ (List.mem_of_getElem? h)))), hg⟩
theorem tc_4 {w : Cond} (j : Nat) (h : tables_1_4[j]? = some w) (hg : goodWord w = true) : w ∈ tblG := List.mem_filter.mpr ⟨List.mem_append_right _ (by unfold tables_1; exact List.mem_append_right _ (List.mem_append_right _ (List.mem_append_right _ (List.mem_append_left _ (List.mem_of_getElem? h))))), hg⟩
theorem tc_5 {w : Cond} (j : Nat) (h : tables_1_5[j]? = some w) (hg : goodWord w = true) : w ∈ tblG := List.mem_filter.mpr ⟨List.mem_append_right _ (by unfold tables_1; exact List.mem_append_right _ (List.mem_append_right _ (List.mem_append_right _ (List.mem_append_right _ (List.mem_append_left _ (List.mem_of_getElem? h)))))), hg⟩
theorem tc_6 {w : Cond} (j : Nat) (h : tables_1_6[j]? = some w) (hg : goodWord w = true) : w ∈ tblG := List.mem_filter.mpr ⟨List.mem_append_right _ (by unfold tables_1; exact List.mem_append_right _ (List.mem_append_right _ (List.mem_append_right _ (List.mem_append_right _ (List.mem_append_right _ (List.mem_of_getElem? h)))))), hg⟩
theorem inK0 : ∀ w ∈ u_ws RX0 TX0 7, w ∈ tblG := by
  intro w hw
  obtain ⟨k, hk, rfl⟩ := List.mem_map.mp hw
  have hk := List.mem_range.mp hk
  match k, hk with
  | 0, _ => exact tc_1 154 rfl rfl
  | 1, _ => exact tc_1 156 rfl rfl
  | 2, _ => exact tc_1 158 rfl rfl
  | 3, _ => exact tc_1 160 rfl rfl
  | 4, _ => exact tc_1 162 rfl rfl
  | 5, _ => exact tc_1 164 rfl rfl
  | 6, _ => exact tc_1 166 rfl rfl
  | k + 7, hk => exact absurd hk (by omega)

theorem inK1 : ∀ w ∈ u_ws RX1 TX1 13, w ∈ tblG := by
  intro w hw
  obtain ⟨k, hk, rfl⟩ := List.mem_map.mp hw
  have hk := List.mem_range.mp hk
  match k, hk with
  | 0, _ => exact tc_1 112 rfl rfl
  | 1, _ => exact tc_1 114 rfl rfl
  | 2, _ => exact tc_1 116 rfl rfl
  | 3, _ => exact tc_1 118 rfl rfl
  | 4, _ => exact tc_1 120 rfl rfl
  | 5, _ => exact tc_1 122 rfl rfl
  | 6, _ => exact tc_1 124 rfl rfl
  | 7, _ => exact tc_1 126 rfl rfl
  | 8, _ => exact tc_1 128 rfl rfl
  | 9, _ => exact tc_1 130 rfl rfl
  | 10, _ => exact tc_1 132 rfl rfl
  | 11, _ => exact tc_1 134 rfl rfl
  | 12, _ => exact tc_1 136 rfl rfl
  | k + 13, hk => exact absurd hk (by omega)

theorem inK2 : ∀ w ∈ u_ws RX2 TX2 1, w ∈ tblG := by
  intro w hw
  obtain ⟨k, hk, rfl⟩ := List.mem_map.mp hw
  have hk := List.mem_range.mp hk
  match k, hk with
  | 0, _ => exact tc_1 225 rfl rfl
  | k + 1, hk => exact absurd hk (by omega)

theorem inK3 : ∀ w ∈ u_ws RX3 TX3 9, w ∈ tblG := by
  intro w hw
  obtain ⟨k, hk, rfl⟩ := List.mem_map.mp hw
  have hk := List.mem_range.mp hk
  match k, hk with
  | 0, _ => exact tc_1 49 rfl rfl
  | 1, _ => exact tc_1 51 rfl rfl
  | 2, _ => exact tc_1 53 rfl rfl
  | 3, _ => exact tc_1 55 rfl rfl
  | 4, _ => exact tc_1 57 rfl rfl
  | 5, _ => exact tc_1 59 rfl rfl
  | 6, _ => exact tc_1 61 rfl rfl
  | 7, _ => exact tc_1 63 rfl rfl
  | 8, _ => exact tc_1 65 rfl rfl
  | k + 9, hk => exact absurd hk (by omega)

theorem inK4 : ∀ w ∈ u_ws RX4 TX4 11, w ∈ tblG := by
  intro w hw
  obtain ⟨k, hk, rfl⟩ := List.mem_map.mp hw
  have hk := List.mem_range.mp hk
  match k, hk with
  | 0, _ => exact tc_1 194 rfl rfl
  | 1, _ => exact tc_1 196 rfl rfl
  | 2, _ => exact tc_1 198 rfl rfl
  | 3, _ => exact tc_1 200 rfl rfl
  | 4, _ => exact tc_1 202 rfl rfl
  | 5, _ => exact tc_1 204 rfl rfl
  | 6, _ => exact tc_1 206 rfl rfl
  | 7, _ => exact tc_1 208 rfl rfl
  | 8, _ => exact tc_1 210 rfl rfl
  | 9, _ => exact tc_1 212 rfl rfl
  | 10, _ => exact tc_1 214 rfl rfl
  | k + 11, hk => exact absurd hk (by omega)

theorem inK5 : ∀ w ∈ u_ws RX5 TX5 6, w ∈ tblG := by
  intro w hw
  obtain ⟨k, hk, rfl⟩ := List.mem_map.mp hw
  have hk := List.mem_range.mp hk
  match k, hk with
  | 0, _ => exact tc_2 14 rfl rfl
  | 1, _ => exact tc_2 16 rfl rfl
  | 2, _ => exact tc_2 18 rfl rfl
  | 3, _ => exact tc_2 20 rfl rfl
  | 4, _ => exact tc_2 22 rfl rfl
  | 5, _ => exact tc_2 24 rfl rfl
  | k + 6, hk => exact absurd hk (by omega)

theorem inK6 : ∀ w ∈ u_ws RX6 TX6 2, w ∈ tblG := by
  intro w hw
  obtain ⟨k, hk, rfl⟩ := List.mem_map.mp hw
  have hk := List.mem_range.mp hk
  match k, hk with
  | 0, _ => exact tc_1 236 rfl rfl
  | 1, _ => exact tc_1 238 rfl rfl
  | k + 2, hk => exact absurd hk (by omega)

theorem inK7 : ∀ w ∈ u_ws RX7 TX7 4, w ∈ tblG := by
  intro w hw
  obtain ⟨k, hk, rfl⟩ := List.mem_map.mp hw
  have hk := List.mem_range.mp hk
  match k, hk with
  | 0, _ => exact tc_2 40 rfl rfl
  | 1, _ => exact tc_2 42 rfl rfl
  | 2, _ => exact tc_2 44 rfl rfl
  | 3, _ => exact tc_2 46 rfl rfl
  | k + 4, hk => exact absurd hk (by omega)

theorem inK8 : ∀ w ∈ u_ws RX8 TX8 11, w ∈ tblG := by
  intro w hw
  obtain ⟨k, hk, rfl⟩ := List.mem_map.mp hw
  have hk := List.mem_range.mp hk
  match k, hk with
  | 0, _ => exact tc_2 60 rfl rfl
  | 1, _ => exact tc_2 62 rfl rfl
  | 2, _ => exact tc_2 64 rfl rfl
  | 3, _ => exact tc_2 66 rfl rfl
  | 4, _ => exact tc_2 68 rfl rfl
  | 5, _ => exact tc_2 70 rfl rfl
  | 6, _ => exact tc_2 72 rfl rfl
  | 7, _ => exact tc_2 74 rfl rfl
  | 8, _ => exact tc_2 76 rfl rfl
  | 9, _ => exact tc_2 78 rfl rfl
  | 10, _ => exact tc_2 80 rfl rfl
  | k + 11, hk => exact absurd hk (by omega)

theorem inK9 : ∀ w ∈ u_ws RX9 TX9 40, w ∈ tblG := by
  intro w hw
  obtain ⟨k, hk, rfl⟩ := List.mem_map.mp hw
  have hk := List.mem_range.mp hk
  match k, hk with
  | 0, _ => exact tc_4 195 rfl rfl
  | 1, _ => exact tc_4 197 rfl rfl
  | 2, _ => exact tc_4 199 rfl rfl
  | 3, _ => exact tc_4 201 rfl rfl
  | 4, _ => exact tc_4 203 rfl rfl
  | 5, _ => exact tc_4 205 rfl rfl
  | 6, _ => exact tc_4 207 rfl rfl
  | 7, _ => exact tc_4 209 rfl rfl
  | 8, _ => exact tc_4 211 rfl rfl
  | 9, _ => exact tc_4 213 rfl rfl
  | 10, _ => exact tc_4 215 rfl rfl
  | 11, _ => exact tc_4 217 rfl rfl
  | 12, _ => exact tc_4 219 rfl rfl
  | 13, _ => exact tc_4 221 rfl rfl
  | 14, _ => exact tc_4 223 rfl rfl
  | 15, _ => exact tc_4 225 rfl rfl
  | 16, _ => exact tc_4 227 rfl rfl
  | 17, _ => exact tc_4 229 rfl rfl
  | 18, _ => exact tc_4 231 rfl rfl
  | 19, _ => exact tc_4 233 rfl rfl
  | 20, _ => exact tc_4 235 rfl rfl
  | 21, _ => exact tc_4 237 rfl rfl
  | 22, _ => exact tc_4 239 rfl rfl
  | 23, _ => exact tc_5 1 rfl rfl
  | 24, _ => exact tc_5 3 rfl rfl
  | 25, _ => exact tc_5 5 rfl rfl
  | 26, _ => exact tc_5 7 rfl rfl
  | 27, _ => exact tc_5 9 rfl rfl
  | 28, _ => exact tc_5 11 rfl rfl
  | 29, _ => exact tc_5 13 rfl rfl
  | 30, _ => exact tc_5 15 rfl rfl
  | 31, _ => exact tc_5 17 rfl rfl
  | 32, _ => exact tc_5 19 rfl rfl
  | 33, _ => exact tc_5 21 rfl rfl
  | 34, _ => exact tc_5 23 rfl rfl
  | 35, _ => exact tc_5 25 rfl rfl
  | 36, _ => exact tc_5 27 rfl rfl
  | 37, _ => exact tc_5 29 rfl rfl
  | 38, _ => exact tc_5 31 rfl rfl
  | 39, _ => exact tc_5 33 rfl rfl
  | k + 40, hk => exact absurd hk (by omega)

theorem ly_10 : lay[10]? = some (0, 4) := rfl
theorem ip_10 : indp 10 10 = true := by decide +kernel

theorem ly_11 : lay[11]? = some (0, 4) := rfl
theorem ip_11 : indp 11 11 = true := by decide +kernel

theorem ly_12 : lay[12]? = some (0, 5) := rfl
theorem ip_12 : indp 12 12 = true := by decide +kernel

theorem ly_13 : lay[13]? = some (0, 60) := rfl
theorem ip_13 : indp 13 13 = true := by decide +kernel

theorem ly_14 : lay[14]? = some (0, 16) := rfl
theorem ip_14 : indp 14 14 = true := by decide +kernel

theorem ly_15 : lay[15]? = some (0, 4) := rfl
theorem ip_15 : indp 15 15 = true := by decide +kernel

theorem ly_16 : lay[16]? = some (0, 3) := rfl
theorem ip_16 : indp 16 16 = true := by decide +kernel

theorem ly_17 : lay[17]? = some (0, 16) := rfl
theorem ip_17 : indp 17 17 = true := by decide +kernel

theorem ly_18 : lay[18]? = some (0, 4) := rfl
theorem ip_18 : indp 18 18 = true := by decide +kernel

theorem ly_19 : lay[19]? = some (0, 4) := rfl
theorem ip_19 : indp 19 19 = true := by decide +kernel

theorem ly_20 : lay[20]? = some (0, 4) := rfl
theorem ip_20 : indp 20 20 = true := by decide +kernel

theorem ly_21 : lay[21]? = some (1, 16) := rfl
theorem ip_21 : indp 21 21 = true := by decide +kernel

theorem ly_22 : lay[22]? = some (1, 60) := rfl
theorem ip_22 : indp 22 22 = true := by decide +kernel

theorem ly_23 : lay[23]? = some (1, 20) := rfl
theorem ip_23 : indp 23 23 = true := by decide +kernel

theorem ly_24 : lay[24]? = some (1, 4) := rfl
theorem ip_24 : indp 24 24 = true := by decide +kernel

theorem ly_25 : lay[25]? = some (1, 4) := rfl
theorem ip_25 : indp 25 25 = true := by decide +kernel

theorem ly_26 : lay[26]? = some (0, 4) := rfl
theorem ip_26 : indp 26 26 = true := by decide +kernel

theorem ly_27 : lay[27]? = some (0, 4) := rfl
theorem ip_27 : indp 27 27 = true := by decide +kernel

theorem ly_28 : lay[28]? = some (0, 4) := rfl
theorem ip_28 : indp 28 28 = true := by decide +kernel

theorem ly_29 : lay[29]? = some (0, 4) := rfl
theorem ip_29 : indp 29 29 = true := by decide +kernel

theorem ly_30 : lay[30]? = some (0, 4) := rfl
theorem ip_30 : indp 30 30 = true := by decide +kernel

theorem ly_31 : lay[31]? = some (0, 60) := rfl
theorem ip_31 : indp 31 31 = true := by decide +kernel

theorem ly_32 : lay[32]? = some (0, 60) := rfl
theorem ip_32 : indp 32 32 = true := by decide +kernel

theorem ly_33 : lay[33]? = some (0, 60) := rfl
theorem ip_33 : indp 33 33 = true := by decide +kernel

theorem ly_34 : lay[34]? = some (0, 60) := rfl
theorem ip_34 : indp 34 34 = true := by decide +kernel

theorem ly_35 : lay[35]? = some (0, 60) := rfl
theorem ip_35 : indp 35 35 = true := by decide +kernel

theorem ly_36 : lay[36]? = some (0, 4) := rfl
theorem ip_36 : indp 36 36 = true := by decide +kernel

theorem ly_37 : lay[37]? = some (0, 4) := rfl
theorem ip_37 : indp 37 37 = true := by decide +kernel

theorem ly_38 : lay[38]? = some (0, 240) := rfl
theorem ip_38 : indp 38 38 = true := by decide +kernel

theorem ly_39 : lay[39]? = some (0, 4) := rfl
theorem ip_39 : indp 39 39 = true := by decide +kernel

theorem ly_40 : lay[40]? = some (0, 4) := rfl
theorem ip_40 : indp 40 40 = true := by decide +kernel

theorem ly_41 : lay[41]? = some (0, 240) := rfl
theorem ip_41 : indp 41 41 = true := by decide +kernel

theorem ly_42 : lay[42]? = some (0, 60) := rfl
theorem ip_42 : indp 42 42 = true := by decide +kernel

theorem ly_43 : lay[43]? = some (0, 60) := rfl
theorem ip_43 : indp 43 43 = true := by decide +kernel

theorem ly_44 : lay[44]? = some (0, 16) := rfl
theorem ip_44 : indp 44 44 = true := by decide +kernel

theorem ly_45 : lay[45]? = some (0, 4) := rfl
theorem ip_45 : indp 45 45 = true := by decide +kernel

theorem ly_46 : lay[46]? = some (0, 3) := rfl
theorem ip_46 : indp 46 46 = true := by decide +kernel

theorem ly_47 : lay[47]? = some (0, 4) := rfl
theorem ip_47 : indp 47 47 = true := by decide +kernel

theorem ly_48 : lay[48]? = some (0, 4) := rfl
theorem ip_48 : indp 48 48 = true := by decide +kernel

theorem ly_49 : lay[49]? = some (0, 5) := rfl
theorem ip_49 : indp 49 49 = true := by decide +kernel

theorem ly_50 : lay[50]? = some (0, 5) := rfl
theorem ip_50 : indp 50 50 = true := by decide +kernel

theorem ly_51 : lay[51]? = some (0, 5) := rfl
theorem ip_51 : indp 51 51 = true := by decide +kernel

theorem ly_52 : lay[52]? = some (0, 4) := rfl
theorem ip_52 : indp 52 52 = true := by decide +kernel

theorem ly_53 : lay[53]? = some (1, 50) := rfl
theorem ip_53 : indp 53 53 = true := by decide +kernel

theorem ly_54 : lay[54]? = some (1, 50) := rfl
theorem ip_54 : indp 54 54 = true := by decide +kernel

theorem ly_55 : lay[55]? = some (0, 4) := rfl
theorem ip_55 : indp 55 55 = true := by decide +kernel

theorem ly_56 : lay[56]? = some (0, 4) := rfl
theorem ip_56 : indp 56 56 = true := by decide +kernel

theorem ly_57 : lay[57]? = some (0, 5) := rfl
theorem ip_57 : indp 57 57 = true := by decide +kernel

theorem ly_58 : lay[58]? = some (0, 60) := rfl
theorem ip_58 : indp 58 58 = true := by decide +kernel

theorem ly_59 : lay[59]? = some (0, 60) := rfl
theorem ip_59 : indp 59 59 = true := by decide +kernel

theorem ly_60 : lay[60]? = some (0, 60) := rfl
theorem ip_60 : indp 60 60 = true := by decide +kernel

theorem ly_61 : lay[61]? = some (2, 60) := rfl
theorem ip_61 : indp 61 61 = true := by decide +kernel

theorem ly_62 : lay[62]? = some (0, 60) := rfl
theorem ip_62 : indp 62 62 = true := by decide +kernel

theorem ly_63 : lay[63]? = some (0, 8) := rfl
theorem ip_63 : indp 63 63 = true := by decide +kernel

abbrev kX0_owedInParts : MK := (yX0_owedInParts, cX0_owedInParts, 3, (some .long), { frames := 0, cells := 0, slots := 0, locals := 0 })
theorem okX0_owedInParts : OKv kX0_owedInParts 2 := ⟨⟨tc_3 26 rfl rfl, tc_1 4 rfl rfl, ⟨by decide +kernel, by decide +kernel, by decide +kernel⟩, rfl, rfl⟩, tc_3 24 rfl rfl, tc_3 25 rfl rfl, ⟨0, TX0, 7, 3, rfl, rfl⟩⟩

abbrev kX0_owedWhole : MK := (yX0_owedWhole, cX0_owedWhole, 1, (some .long), { frames := 0, cells := 0, slots := 0, locals := 0 })
theorem okX0_owedWhole : OKv kX0_owedWhole 0 := ⟨⟨tc_3 30 rfl rfl, tc_1 4 rfl rfl, ⟨by decide +kernel, by decide +kernel, by decide +kernel⟩, rfl, rfl⟩, tc_3 28 rfl rfl, tc_3 29 rfl rfl, ⟨0, TX0, 7, 3, rfl, rfl⟩⟩

abbrev kX0_costWhole : MK := (yX0_costWhole, cX0_costWhole, 1, (some .long), { frames := 0, cells := 0, slots := 0, locals := 0 })
theorem okX0_costWhole : OKv kX0_costWhole 0 := ⟨⟨tc_3 56 rfl rfl, tc_1 4 rfl rfl, ⟨by decide +kernel, by decide +kernel, by decide +kernel⟩, rfl, rfl⟩, tc_3 54 rfl rfl, tc_3 55 rfl rfl, ⟨0, TX0, 7, 3, rfl, rfl⟩⟩

abbrev kX0_costOf : MK := (yX0_costOf, cX0_costOf, 2, (some .long), { frames := 2, cells := 0, slots := 0, locals := 45 })
theorem okX0_costOf : OKv kX0_costOf 1 := ⟨⟨tc_3 66 rfl rfl, tc_1 4 rfl rfl, ⟨by decide +kernel, by decide +kernel, by decide +kernel⟩, rfl, rfl⟩, tc_3 64 rfl rfl, tc_3 65 rfl rfl, ⟨0, TX0, 7, 3, rfl, rfl⟩⟩

abbrev kX0_owedFrom : MK := (yX0_owedFrom, cX0_owedFrom, 3, (some .long), { frames := 4, cells := 0, slots := 0, locals := 94 })
theorem okX0_owedFrom : OKv kX0_owedFrom 2 := ⟨⟨tc_3 194 rfl rfl, tc_1 4 rfl rfl, ⟨by decide +kernel, by decide +kernel, by decide +kernel⟩, rfl, rfl⟩, tc_3 192 rfl rfl, tc_3 193 rfl rfl, ⟨0, TX0, 7, 3, rfl, rfl⟩⟩

abbrev kX0_play : MK := (yX0_play, cX0_play, 2, none, { frames := 3, cells := 0, slots := 0, locals := 73 })
theorem okX0_play : OKv kX0_play 0 := ⟨⟨tc_2 210 rfl rfl, tc_1 4 rfl rfl, ⟨by decide +kernel, by decide +kernel, by decide +kernel⟩, rfl, rfl⟩, tc_2 208 rfl rfl, tc_2 209 rfl rfl, ⟨0, TX0, 7, 3, rfl, rfl⟩⟩

abbrev kX0_weighChoices : MK := (yX0_weighChoices, cX0_weighChoices, 4, none, { frames := 3, cells := 0, slots := 0, locals := 73 })
theorem okX0_weighChoices : OKv kX0_weighChoices 1 := ⟨⟨tc_3 92 rfl rfl, tc_1 4 rfl rfl, ⟨by decide +kernel, by decide +kernel, by decide +kernel⟩, rfl, rfl⟩, tc_3 90 rfl rfl, tc_3 91 rfl rfl, ⟨0, TX0, 7, 3, rfl, rfl⟩⟩

abbrev kX0_replay : MK := (yX0_replay, cX0_replay, 4, none, { frames := 2, cells := 0, slots := 0, locals := 50 })
theorem okX0_replay : OKv kX0_replay 1 := ⟨⟨tc_3 104 rfl rfl, tc_1 4 rfl rfl, ⟨by decide +kernel, by decide +kernel, by decide +kernel⟩, rfl, rfl⟩, tc_3 102 rfl rfl, tc_3 103 rfl rfl, ⟨0, TX0, 7, 3, rfl, rfl⟩⟩

abbrev kX0_split : MK := (yX0_split, cX0_split, 6, none, { frames := 2, cells := 0, slots := 0, locals := 48 })
theorem okX0_split : OKv kX0_split 1 := ⟨⟨tc_2 218 rfl rfl, tc_1 4 rfl rfl, ⟨by decide +kernel, by decide +kernel, by decide +kernel⟩, rfl, rfl⟩, tc_2 217 rfl rfl, tc_0 12 rfl rfl, ⟨0, TX0, 7, 3, rfl, rfl⟩⟩

abbrev kX0_spread : MK := (yX0_spread, cX0_spread, 4, none, { frames := 2, cells := 0, slots := 0, locals := 49 })
theorem okX0_spread : OKv kX0_spread 1 := ⟨⟨tc_2 223 rfl rfl, tc_1 4 rfl rfl, ⟨by decide +kernel, by decide +kernel, by decide +kernel⟩, rfl, rfl⟩, tc_2 222 rfl rfl, tc_0 13 rfl rfl, ⟨0, TX0, 7, 3, rfl, rfl⟩⟩

abbrev kX0_passOn : MK := (yX0_passOn, cX0_passOn, 9, none, { frames := 1, cells := 0, slots := 0, locals := 21 })
theorem okX0_passOn : OKv kX0_passOn 3 := ⟨⟨tc_2 227 rfl rfl, tc_1 4 rfl rfl, ⟨by decide +kernel, by decide +kernel, by decide +kernel⟩, rfl, rfl⟩, tc_2 226 rfl rfl, tc_0 14 rfl rfl, ⟨0, TX0, 7, 3, rfl, rfl⟩⟩

abbrev kX0_begin : MK := (yX0_begin, cX0_begin, 2, none, { frames := 0, cells := 0, slots := 0, locals := 0 })
theorem okX0_begin : OKv kX0_begin 0 := ⟨⟨tc_2 214 rfl rfl, tc_1 4 rfl rfl, ⟨by decide +kernel, by decide +kernel, by decide +kernel⟩, rfl, rfl⟩, tc_2 213 rfl rfl, tc_0 11 rfl rfl, ⟨0, TX0, 7, 3, rfl, rfl⟩⟩

abbrev kX0_step : MK := (yX0_step, cX0_step, 4, none, { frames := 1, cells := 0, slots := 0, locals := 27 })
theorem okX0_step : OKv kX0_step 2 := ⟨⟨tc_2 239 rfl rfl, tc_1 4 rfl rfl, ⟨by decide +kernel, by decide +kernel, by decide +kernel⟩, rfl, rfl⟩, tc_2 238 rfl rfl, tc_0 15 rfl rfl, ⟨0, TX0, 7, 3, rfl, rfl⟩⟩

abbrev kX0_stepOn : MK := (yX0_stepOn, cX0_stepOn, 4, none, { frames := 0, cells := 0, slots := 0, locals := 0 })
theorem okX0_stepOn : OKv kX0_stepOn 2 := ⟨⟨tc_3 9 rfl rfl, tc_1 4 rfl rfl, ⟨by decide +kernel, by decide +kernel, by decide +kernel⟩, rfl, rfl⟩, tc_3 8 rfl rfl, tc_0 17 rfl rfl, ⟨0, TX0, 7, 3, rfl, rfl⟩⟩

abbrev kX0_stepOnce : MK := (yX0_stepOnce, cX0_stepOnce, 8, none, { frames := 0, cells := 0, slots := 0, locals := 0 })
theorem okX0_stepOnce : OKv kX0_stepOnce 2 := ⟨⟨tc_3 3 rfl rfl, tc_1 4 rfl rfl, ⟨by decide +kernel, by decide +kernel, by decide +kernel⟩, rfl, rfl⟩, tc_3 2 rfl rfl, tc_0 16 rfl rfl, ⟨0, TX0, 7, 3, rfl, rfl⟩⟩

abbrev kX0_halve : MK := (yX0_halve, cX0_halve, 7, none, { frames := 0, cells := 0, slots := 0, locals := 0 })
theorem okX0_halve : OKv kX0_halve 1 := ⟨⟨tc_3 13 rfl rfl, tc_1 4 rfl rfl, ⟨by decide +kernel, by decide +kernel, by decide +kernel⟩, rfl, rfl⟩, tc_3 12 rfl rfl, tc_0 18 rfl rfl, ⟨0, TX0, 7, 3, rfl, rfl⟩⟩

abbrev kX0_finish : MK := (yX0_finish, cX0_finish, 2, none, { frames := 0, cells := 0, slots := 0, locals := 0 })
theorem okX0_finish : OKv kX0_finish 0 := ⟨⟨tc_3 18 rfl rfl, tc_1 4 rfl rfl, ⟨by decide +kernel, by decide +kernel, by decide +kernel⟩, rfl, rfl⟩, tc_3 17 rfl rfl, tc_0 19 rfl rfl, ⟨0, TX0, 7, 3, rfl, rfl⟩⟩

abbrev kX1_gather : MK := (yX1_gather, cX1_gather, 1, none, { frames := 1, cells := 0, slots := 0, locals := 26 })
theorem okX1_gather : OKv kX1_gather 0 := ⟨⟨tc_2 178 rfl rfl, tc_1 3 rfl rfl, ⟨by decide +kernel, by decide +kernel, by decide +kernel⟩, rfl, rfl⟩, tc_2 176 rfl rfl, tc_2 177 rfl rfl, ⟨1, TX1, 13, 2, rfl, rfl⟩⟩

abbrev kX1_seatOneMore : MK := (yX1_seatOneMore, cX1_seatOneMore, 2, none, { frames := 0, cells := 0, slots := 0, locals := 0 })
theorem okX1_seatOneMore : OKv kX1_seatOneMore 1 := ⟨⟨tc_3 153 rfl rfl, tc_1 3 rfl rfl, ⟨by decide +kernel, by decide +kernel, by decide +kernel⟩, rfl, rfl⟩, tc_3 151 rfl rfl, tc_3 152 rfl rfl, ⟨1, TX1, 13, 2, rfl, rfl⟩⟩

abbrev kX1_isThere : MK := (yX1_isThere, cX1_isThere, 3, (some .boolean), { frames := 0, cells := 0, slots := 0, locals := 0 })
theorem okX1_isThere : OKv kX1_isThere 2 := ⟨⟨tc_2 189 rfl rfl, tc_1 3 rfl rfl, ⟨by decide +kernel, by decide +kernel, by decide +kernel⟩, rfl, rfl⟩, tc_2 187 rfl rfl, tc_2 188 rfl rfl, ⟨1, TX1, 13, 2, rfl, rfl⟩⟩

abbrev kX1_quartersAt : MK := (yX1_quartersAt, cX1_quartersAt, 4, (some .int), { frames := 1, cells := 0, slots := 0, locals := 25 })
theorem okX1_quartersAt : OKv kX1_quartersAt 2 := ⟨⟨tc_2 185 rfl rfl, tc_1 3 rfl rfl, ⟨by decide +kernel, by decide +kernel, by decide +kernel⟩, rfl, rfl⟩, tc_2 183 rfl rfl, tc_2 184 rfl rfl, ⟨1, TX1, 13, 2, rfl, rfl⟩⟩

abbrev kX1_feesOf : MK := (yX1_feesOf, cX1_feesOf, 4, (some .int), { frames := 1, cells := 0, slots := 0, locals := 22 })
theorem okX1_feesOf : OKv kX1_feesOf 1 := ⟨⟨tc_3 70 rfl rfl, tc_1 3 rfl rfl, ⟨by decide +kernel, by decide +kernel, by decide +kernel⟩, rfl, rfl⟩, tc_3 68 rfl rfl, tc_3 69 rfl rfl, ⟨1, TX1, 13, 2, rfl, rfl⟩⟩

abbrev kX2_endOfEvening : MK := (yX2_endOfEvening, cX2_endOfEvening, 6, (some .int), { frames := 3, cells := 0, slots := 0, locals := 72 })
theorem okX2_endOfEvening : OKv kX2_endOfEvening 1 := ⟨⟨tc_3 203 rfl rfl, tc_1 6 rfl rfl, ⟨by decide +kernel, by decide +kernel, by decide +kernel⟩, rfl, rfl⟩, tc_3 201 rfl rfl, tc_3 202 rfl rfl, ⟨2, TX2, 1, 5, rfl, rfl⟩⟩

abbrev kX2_laughing : MK := (yX2_laughing, cX2_laughing, 5, (some .int), { frames := 2, cells := 0, slots := 0, locals := 48 })
theorem okX2_laughing : OKv kX2_laughing 2 := ⟨⟨tc_3 207 rfl rfl, tc_1 6 rfl rfl, ⟨by decide +kernel, by decide +kernel, by decide +kernel⟩, rfl, rfl⟩, tc_3 206 rfl rfl, tc_0 29 rfl rfl, ⟨2, TX2, 1, 5, rfl, rfl⟩⟩

abbrev kX2_takerOf : MK := (yX2_takerOf, cX2_takerOf, 6, (some .int), { frames := 1, cells := 0, slots := 0, locals := 21 })
theorem okX2_takerOf : OKv kX2_takerOf 2 := ⟨⟨tc_3 218 rfl rfl, tc_1 6 rfl rfl, ⟨by decide +kernel, by decide +kernel, by decide +kernel⟩, rfl, rfl⟩, tc_3 217 rfl rfl, tc_0 31 rfl rfl, ⟨2, TX2, 1, 5, rfl, rfl⟩⟩

abbrev kX2_draw : MK := (yX2_draw, cX2_draw, 2, (some .int), { frames := 0, cells := 0, slots := 0, locals := 0 })
theorem okX2_draw : OKv kX2_draw 1 := ⟨⟨tc_3 212 rfl rfl, tc_1 6 rfl rfl, ⟨by decide +kernel, by decide +kernel, by decide +kernel⟩, rfl, rfl⟩, tc_3 211 rfl rfl, tc_0 30 rfl rfl, ⟨2, TX2, 1, 5, rfl, rfl⟩⟩

abbrev kX3_append : MK := (yX3_append, cX3_append, 2, (some .boolean), { frames := 6, cells := 0, slots := 0, locals := 125 })
theorem okX3_append : OKv kX3_append 1 := ⟨⟨tc_2 93 rfl rfl, tc_1 2 rfl rfl, ⟨by decide +kernel, by decide +kernel, by decide +kernel⟩, rfl, rfl⟩, tc_2 91 rfl rfl, tc_2 92 rfl rfl, ⟨3, TX3, 9, 1, rfl, rfl⟩⟩

abbrev kX3_empty : MK := (yX3_empty, cX3_empty, 1, none, { frames := 6, cells := 0, slots := 0, locals := 125 })
theorem okX3_empty : OKv kX3_empty 0 := ⟨⟨tc_2 138 rfl rfl, tc_1 2 rfl rfl, ⟨by decide +kernel, by decide +kernel, by decide +kernel⟩, rfl, rfl⟩, tc_2 136 rfl rfl, tc_2 137 rfl rfl, ⟨3, TX3, 9, 1, rfl, rfl⟩⟩

abbrev kX3_funnyTogether : MK := (yX3_funnyTogether, cX3_funnyTogether, 3, (some .int), { frames := 0, cells := 0, slots := 0, locals := 0 })
theorem okX3_funnyTogether : OKv kX3_funnyTogether 0 := ⟨⟨tc_4 110 rfl rfl, tc_1 2 rfl rfl, ⟨by decide +kernel, by decide +kernel, by decide +kernel⟩, rfl, rfl⟩, tc_4 108 rfl rfl, tc_4 109 rfl rfl, ⟨3, TX3, 9, 1, rfl, rfl⟩⟩

abbrev kX3_worthTogether : MK := (yX3_worthTogether, cX3_worthTogether, 3, (some .int), { frames := 0, cells := 0, slots := 0, locals := 0 })
theorem okX3_worthTogether : OKv kX3_worthTogether 0 := ⟨⟨tc_4 118 rfl rfl, tc_1 2 rfl rfl, ⟨by decide +kernel, by decide +kernel, by decide +kernel⟩, rfl, rfl⟩, tc_4 116 rfl rfl, tc_4 117 rfl rfl, ⟨3, TX3, 9, 1, rfl, rfl⟩⟩

abbrev kX3_interpret : MK := (yX3_interpret, cX3_interpret, 1, none, { frames := 5, cells := 0, slots := 0, locals := 105 })
theorem okX3_interpret : OKv kX3_interpret 0 := ⟨⟨tc_2 97 rfl rfl, tc_1 2 rfl rfl, ⟨by decide +kernel, by decide +kernel, by decide +kernel⟩, rfl, rfl⟩, tc_2 96 rfl rfl, tc_0 0 rfl rfl, ⟨3, TX3, 9, 1, rfl, rfl⟩⟩

abbrev kX3_forget : MK := (yX3_forget, cX3_forget, 1, none, { frames := 0, cells := 0, slots := 0, locals := 0 })
theorem okX3_forget : OKv kX3_forget 0 := ⟨⟨tc_2 101 rfl rfl, tc_1 2 rfl rfl, ⟨by decide +kernel, by decide +kernel, by decide +kernel⟩, rfl, rfl⟩, tc_2 100 rfl rfl, tc_0 1 rfl rfl, ⟨3, TX3, 9, 1, rfl, rfl⟩⟩

abbrev kX3_readParts : MK := (yX3_readParts, cX3_readParts, 2, (some .boolean), { frames := 4, cells := 0, slots := 0, locals := 84 })
theorem okX3_readParts : OKv kX3_readParts 0 := ⟨⟨tc_2 105 rfl rfl, tc_1 2 rfl rfl, ⟨by decide +kernel, by decide +kernel, by decide +kernel⟩, rfl, rfl⟩, tc_2 104 rfl rfl, tc_0 2 rfl rfl, ⟨3, TX3, 9, 1, rfl, rfl⟩⟩

abbrev kX3_readPart : MK := (yX3_readPart, cX3_readPart, 1, (some .boolean), { frames := 3, cells := 0, slots := 0, locals := 64 })
theorem okX3_readPart : OKv kX3_readPart 0 := ⟨⟨tc_2 109 rfl rfl, tc_1 2 rfl rfl, ⟨by decide +kernel, by decide +kernel, by decide +kernel⟩, rfl, rfl⟩, tc_2 108 rfl rfl, tc_0 3 rfl rfl, ⟨3, TX3, 9, 1, rfl, rfl⟩⟩

abbrev kX3_readPerson : MK := (yX3_readPerson, cX3_readPerson, 2, (some .boolean), { frames := 2, cells := 0, slots := 0, locals := 42 })
theorem okX3_readPerson : OKv kX3_readPerson 0 := ⟨⟨tc_2 117 rfl rfl, tc_1 2 rfl rfl, ⟨by decide +kernel, by decide +kernel, by decide +kernel⟩, rfl, rfl⟩, tc_2 116 rfl rfl, tc_0 5 rfl rfl, ⟨3, TX3, 9, 1, rfl, rfl⟩⟩

abbrev kX3_readTale : MK := (yX3_readTale, cX3_readTale, 1, (some .boolean), { frames := 2, cells := 0, slots := 0, locals := 42 })
theorem okX3_readTale : OKv kX3_readTale 0 := ⟨⟨tc_2 126 rfl rfl, tc_1 2 rfl rfl, ⟨by decide +kernel, by decide +kernel, by decide +kernel⟩, rfl, rfl⟩, tc_2 125 rfl rfl, tc_0 7 rfl rfl, ⟨3, TX3, 9, 1, rfl, rfl⟩⟩

abbrev kX3_readRule : MK := (yX3_readRule, cX3_readRule, 3, (some .boolean), { frames := 2, cells := 0, slots := 0, locals := 42 })
theorem okX3_readRule : OKv kX3_readRule 2 := ⟨⟨tc_2 130 rfl rfl, tc_1 2 rfl rfl, ⟨by decide +kernel, by decide +kernel, by decide +kernel⟩, rfl, rfl⟩, tc_2 129 rfl rfl, tc_0 8 rfl rfl, ⟨3, TX3, 9, 1, rfl, rfl⟩⟩

abbrev kX3_sign : MK := (yX3_sign, cX3_sign, 1, (some .int), { frames := 0, cells := 0, slots := 0, locals := 0 })
theorem okX3_sign : OKv kX3_sign 0 := ⟨⟨tc_2 113 rfl rfl, tc_1 2 rfl rfl, ⟨by decide +kernel, by decide +kernel, by decide +kernel⟩, rfl, rfl⟩, tc_2 112 rfl rfl, tc_0 4 rfl rfl, ⟨3, TX3, 9, 1, rfl, rfl⟩⟩

abbrev kX3_isFigure : MK := (yX3_isFigure, cX3_isFigure, 2, (some .boolean), { frames := 1, cells := 0, slots := 0, locals := 21 })
theorem okX3_isFigure : OKv kX3_isFigure 1 := ⟨⟨tc_2 121 rfl rfl, tc_1 2 rfl rfl, ⟨by decide +kernel, by decide +kernel, by decide +kernel⟩, rfl, rfl⟩, tc_2 120 rfl rfl, tc_0 6 rfl rfl, ⟨3, TX3, 9, 1, rfl, rfl⟩⟩

abbrev kX4_findBest : MK := (yX4_findBest, cX4_findBest, 2, none, { frames := 5, cells := 0, slots := 0, locals := 123 })
theorem okX4_findBest : OKv kX4_findBest 1 := ⟨⟨tc_3 83 rfl rfl, tc_1 5 rfl rfl, ⟨by decide +kernel, by decide +kernel, by decide +kernel⟩, rfl, rfl⟩, tc_3 81 rfl rfl, tc_3 82 rfl rfl, ⟨4, TX4, 11, 4, rfl, rfl⟩⟩

abbrev kX4_compareWays : MK := (yX4_compareWays, cX4_compareWays, 5, none, { frames := 4, cells := 0, slots := 0, locals := 99 })
theorem okX4_compareWays : OKv kX4_compareWays 1 := ⟨⟨tc_3 88 rfl rfl, tc_1 5 rfl rfl, ⟨by decide +kernel, by decide +kernel, by decide +kernel⟩, rfl, rfl⟩, tc_3 87 rfl rfl, tc_0 23 rfl rfl, ⟨4, TX4, 11, 4, rfl, rfl⟩⟩

abbrev kX4_compareHolds : MK := (yX4_compareHolds, cX4_compareHolds, 7, none, { frames := 3, cells := 0, slots := 0, locals := 73 })
theorem okX4_compareHolds : OKv kX4_compareHolds 2 := ⟨⟨tc_3 97 rfl rfl, tc_1 5 rfl rfl, ⟨by decide +kernel, by decide +kernel, by decide +kernel⟩, rfl, rfl⟩, tc_3 96 rfl rfl, tc_0 24 rfl rfl, ⟨4, TX4, 11, 4, rfl, rfl⟩⟩

abbrev kX4_settle : MK := (yX4_settle, cX4_settle, 2, none, { frames := 6, cells := 0, slots := 0, locals := 147 })
theorem okX4_settle : OKv kX4_settle 0 := ⟨⟨tc_3 114 rfl rfl, tc_1 5 rfl rfl, ⟨by decide +kernel, by decide +kernel, by decide +kernel⟩, rfl, rfl⟩, tc_3 112 rfl rfl, tc_3 113 rfl rfl, ⟨4, TX4, 11, 4, rfl, rfl⟩⟩

abbrev kX4_roundChanges : MK := (yX4_roundChanges, cX4_roundChanges, 5, (some .boolean), { frames := 5, cells := 0, slots := 0, locals := 123 })
theorem okX4_roundChanges : OKv kX4_roundChanges 0 := ⟨⟨tc_3 118 rfl rfl, tc_1 5 rfl rfl, ⟨by decide +kernel, by decide +kernel, by decide +kernel⟩, rfl, rfl⟩, tc_3 117 rfl rfl, tc_0 25 rfl rfl, ⟨4, TX4, 11, 4, rfl, rfl⟩⟩

abbrev kX4_findOrder : MK := (yX4_findOrder, cX4_findOrder, 5, none, { frames := 4, cells := 0, slots := 0, locals := 94 })
theorem okX4_findOrder : OKv kX4_findOrder 1 := ⟨⟨tc_3 132 rfl rfl, tc_1 5 rfl rfl, ⟨by decide +kernel, by decide +kernel, by decide +kernel⟩, rfl, rfl⟩, tc_3 130 rfl rfl, tc_3 131 rfl rfl, ⟨4, TX4, 11, 4, rfl, rfl⟩⟩

abbrev kX4_setRow : MK := (yX4_setRow, cX4_setRow, 5, (some .boolean), { frames := 1, cells := 0, slots := 0, locals := 21 })
theorem okX4_setRow : OKv kX4_setRow 1 := ⟨⟨tc_3 136 rfl rfl, tc_1 5 rfl rfl, ⟨by decide +kernel, by decide +kernel, by decide +kernel⟩, rfl, rfl⟩, tc_3 135 rfl rfl, tc_0 27 rfl rfl, ⟨4, TX4, 11, 4, rfl, rfl⟩⟩

abbrev kX4_bestCompany : MK := (yX4_bestCompany, cX4_bestCompany, 8, (some .int), { frames := 4, cells := 0, slots := 0, locals := 94 })
theorem okX4_bestCompany : OKv kX4_bestCompany 1 := ⟨⟨tc_3 145 rfl rfl, tc_1 5 rfl rfl, ⟨by decide +kernel, by decide +kernel, by decide +kernel⟩, rfl, rfl⟩, tc_3 143 rfl rfl, tc_3 144 rfl rfl, ⟨4, TX4, 11, 4, rfl, rfl⟩⟩

abbrev kX4_bestLaw : MK := (yX4_bestLaw, cX4_bestLaw, 6, (some .int), { frames := 4, cells := 0, slots := 0, locals := 94 })
theorem okX4_bestLaw : OKv kX4_bestLaw 1 := ⟨⟨tc_3 165 rfl rfl, tc_1 5 rfl rfl, ⟨by decide +kernel, by decide +kernel, by decide +kernel⟩, rfl, rfl⟩, tc_3 163 rfl rfl, tc_3 164 rfl rfl, ⟨4, TX4, 11, 4, rfl, rfl⟩⟩

abbrev kX4_leastFunnyToLeave : MK := (yX4_leastFunnyToLeave, cX4_leastFunnyToLeave, 6, (some .int), { frames := 4, cells := 0, slots := 0, locals := 94 })
theorem okX4_leastFunnyToLeave : OKv kX4_leastFunnyToLeave 1 := ⟨⟨tc_3 173 rfl rfl, tc_1 5 rfl rfl, ⟨by decide +kernel, by decide +kernel, by decide +kernel⟩, rfl, rfl⟩, tc_3 171 rfl rfl, tc_3 172 rfl rfl, ⟨4, TX4, 11, 4, rfl, rfl⟩⟩

abbrev kX5_add : MK := (yX5_add, cX5_add, 6, (some .boolean), { frames := 0, cells := 0, slots := 0, locals := 0 })
theorem okX5_add : OKv kX5_add 5 := ⟨⟨tc_3 235 rfl rfl, tc_1 8 rfl rfl, ⟨by decide +kernel, by decide +kernel, by decide +kernel⟩, rfl, rfl⟩, tc_3 233 rfl rfl, tc_3 234 rfl rfl, ⟨5, TX5, 6, 7, rfl, rfl⟩⟩

abbrev kX5_laughedTogether : MK := (yX5_laughedTogether, cX5_laughedTogether, 3, (some .int), { frames := 0, cells := 0, slots := 0, locals := 0 })
theorem okX5_laughedTogether : OKv kX5_laughedTogether 0 := ⟨⟨tc_4 114 rfl rfl, tc_1 8 rfl rfl, ⟨by decide +kernel, by decide +kernel, by decide +kernel⟩, rfl, rfl⟩, tc_4 112 rfl rfl, tc_4 113 rfl rfl, ⟨5, TX5, 6, 7, rfl, rfl⟩⟩

abbrev kX5_offBy : MK := (yX5_offBy, cX5_offBy, 7, (some .int), { frames := 1, cells := 0, slots := 0, locals := 25 })
theorem okX5_offBy : OKv kX5_offBy 2 := ⟨⟨tc_4 22 rfl rfl, tc_1 8 rfl rfl, ⟨by decide +kernel, by decide +kernel, by decide +kernel⟩, rfl, rfl⟩, tc_4 20 rfl rfl, tc_4 21 rfl rfl, ⟨5, TX5, 6, 7, rfl, rfl⟩⟩

abbrev kX5_likeliest : MK := (yX5_likeliest, cX5_likeliest, 6, (some .int), { frames := 2, cells := 0, slots := 0, locals := 51 })
theorem okX5_likeliest : OKv kX5_likeliest 1 := ⟨⟨tc_4 31 rfl rfl, tc_1 8 rfl rfl, ⟨by decide +kernel, by decide +kernel, by decide +kernel⟩, rfl, rfl⟩, tc_4 29 rfl rfl, tc_4 30 rfl rfl, ⟨5, TX5, 6, 7, rfl, rfl⟩⟩

abbrev kX5_howMany : MK := (yX5_howMany, cX5_howMany, 6, (some .int), { frames := 0, cells := 0, slots := 0, locals := 0 })
theorem okX5_howMany : OKv kX5_howMany 3 := ⟨⟨tc_4 45 rfl rfl, tc_1 8 rfl rfl, ⟨by decide +kernel, by decide +kernel, by decide +kernel⟩, rfl, rfl⟩, tc_4 43 rfl rfl, tc_4 44 rfl rfl, ⟨5, TX5, 6, 7, rfl, rfl⟩⟩

abbrev kX5_wasSeen : MK := (yX5_wasSeen, cX5_wasSeen, 3, (some .boolean), { frames := 0, cells := 0, slots := 0, locals := 0 })
theorem okX5_wasSeen : OKv kX5_wasSeen 1 := ⟨⟨tc_4 35 rfl rfl, tc_1 8 rfl rfl, ⟨by decide +kernel, by decide +kernel, by decide +kernel⟩, rfl, rfl⟩, tc_4 34 rfl rfl, tc_0 32 rfl rfl, ⟨5, TX5, 6, 7, rfl, rfl⟩⟩

abbrev kX6_put : MK := (yX6_put, cX6_put, 7, (some (.object "LaughsLast$Share")), { frames := 1, cells := 0, slots := 0, locals := 30 })
theorem okX6_put : OKv kX6_put 2 := ⟨⟨tc_3 34 rfl rfl, tc_1 7 rfl rfl, ⟨by decide +kernel, by decide +kernel, by decide +kernel⟩, rfl, rfl⟩, tc_3 32 rfl rfl, tc_3 33 rfl rfl, ⟨6, TX6, 2, 6, rfl, rfl⟩⟩

abbrev kX6_part : MK := (yX6_part, cX6_part, 2, (some .long), { frames := 0, cells := 0, slots := 0, locals := 0 })
theorem okX6_part : OKv kX6_part 1 := ⟨⟨tc_3 44 rfl rfl, tc_1 7 rfl rfl, ⟨by decide +kernel, by decide +kernel, by decide +kernel⟩, rfl, rfl⟩, tc_3 42 rfl rfl, tc_3 43 rfl rfl, ⟨6, TX6, 2, 6, rfl, rfl⟩⟩

abbrev kX6_mixedInto : MK := (yX6_mixedInto, cX6_mixedInto, 3, (some .long), { frames := 0, cells := 0, slots := 0, locals := 0 })
theorem okX6_mixedInto : OKv kX6_mixedInto 1 := ⟨⟨tc_4 135 rfl rfl, tc_1 7 rfl rfl, ⟨by decide +kernel, by decide +kernel, by decide +kernel⟩, rfl, rfl⟩, tc_4 133 rfl rfl, tc_4 134 rfl rfl, ⟨6, TX6, 2, 6, rfl, rfl⟩⟩

abbrev kX6_commonDivisor : MK := (yX6_commonDivisor, cX6_commonDivisor, 11, (some .long), { frames := 0, cells := 0, slots := 0, locals := 0 })
theorem okX6_commonDivisor : OKs kX6_commonDivisor 2 := ⟨⟨tc_3 40 rfl rfl, tc_1 7 rfl rfl, ⟨by decide +kernel, by decide +kernel, by decide +kernel⟩, rfl, rfl⟩, tc_3 39 rfl rfl⟩

abbrev kX7_find : MK := (yX7_find, cX7_find, 2, (some .int), { frames := 0, cells := 0, slots := 0, locals := 0 })
theorem okX7_find : OKv kX7_find 1 := ⟨⟨tc_4 10 rfl rfl, tc_1 9 rfl rfl, ⟨by decide +kernel, by decide +kernel, by decide +kernel⟩, rfl, rfl⟩, tc_4 8 rfl rfl, tc_4 9 rfl rfl, ⟨7, TX7, 4, 8, rfl, rfl⟩⟩

abbrev kX7_isLost : MK := (yX7_isLost, cX7_isLost, 2, (some .boolean), { frames := 0, cells := 0, slots := 0, locals := 0 })
theorem okX7_isLost : OKv kX7_isLost 1 := ⟨⟨tc_4 6 rfl rfl, tc_1 9 rfl rfl, ⟨by decide +kernel, by decide +kernel, by decide +kernel⟩, rfl, rfl⟩, tc_4 4 rfl rfl, tc_4 5 rfl rfl, ⟨7, TX7, 4, 8, rfl, rfl⟩⟩

abbrev kX7_renew : MK := (yX7_renew, cX7_renew, 5, none, { frames := 0, cells := 0, slots := 0, locals := 0 })
theorem okX7_renew : OKv kX7_renew 3 := ⟨⟨tc_4 56 rfl rfl, tc_1 9 rfl rfl, ⟨by decide +kernel, by decide +kernel, by decide +kernel⟩, rfl, rfl⟩, tc_4 54 rfl rfl, tc_4 55 rfl rfl, ⟨7, TX7, 4, 8, rfl, rfl⟩⟩

abbrev kX7_drop : MK := (yX7_drop, cX7_drop, 3, (some .int), { frames := 0, cells := 0, slots := 0, locals := 0 })
theorem okX7_drop : OKv kX7_drop 1 := ⟨⟨tc_4 64 rfl rfl, tc_1 9 rfl rfl, ⟨by decide +kernel, by decide +kernel, by decide +kernel⟩, rfl, rfl⟩, tc_4 62 rfl rfl, tc_4 63 rfl rfl, ⟨7, TX7, 4, 8, rfl, rfl⟩⟩

abbrev kX7_lookUp : MK := (yX7_lookUp, cX7_lookUp, 4, (some .int), { frames := 1, cells := 0, slots := 0, locals := 21 })
theorem okX7_lookUp : OKv kX7_lookUp 3 := ⟨⟨tc_4 72 rfl rfl, tc_1 9 rfl rfl, ⟨by decide +kernel, by decide +kernel, by decide +kernel⟩, rfl, rfl⟩, tc_4 70 rfl rfl, tc_4 71 rfl rfl, ⟨7, TX7, 4, 8, rfl, rfl⟩⟩

abbrev kX7_hasItems : MK := (yX7_hasItems, cX7_hasItems, 4, (some .boolean), { frames := 0, cells := 0, slots := 0, locals := 0 })
theorem okX7_hasItems : OKv kX7_hasItems 3 := ⟨⟨tc_4 93 rfl rfl, tc_1 9 rfl rfl, ⟨by decide +kernel, by decide +kernel, by decide +kernel⟩, rfl, rfl⟩, tc_4 91 rfl rfl, tc_4 92 rfl rfl, ⟨7, TX7, 4, 8, rfl, rfl⟩⟩

abbrev kX7_item : MK := (yX7_item, cX7_item, 3, (some .int), { frames := 0, cells := 0, slots := 0, locals := 0 })
theorem okX7_item : OKv kX7_item 2 := ⟨⟨tc_4 14 rfl rfl, tc_1 9 rfl rfl, ⟨by decide +kernel, by decide +kernel, by decide +kernel⟩, rfl, rfl⟩, tc_4 12 rfl rfl, tc_4 13 rfl rfl, ⟨7, TX7, 4, 8, rfl, rfl⟩⟩

abbrev kX7_put : MK := (yX7_put, cX7_put, 4, none, { frames := 1, cells := 0, slots := 0, locals := 21 })
theorem okX7_put : OKv kX7_put 3 := ⟨⟨tc_4 77 rfl rfl, tc_1 9 rfl rfl, ⟨by decide +kernel, by decide +kernel, by decide +kernel⟩, rfl, rfl⟩, tc_4 75 rfl rfl, tc_4 76 rfl rfl, ⟨7, TX7, 4, 8, rfl, rfl⟩⟩

abbrev kX7_move : MK := (yX7_move, cX7_move, 6, none, { frames := 1, cells := 0, slots := 0, locals := 26 })
theorem okX7_move : OKv kX7_move 5 := ⟨⟨tc_4 97 rfl rfl, tc_1 9 rfl rfl, ⟨by decide +kernel, by decide +kernel, by decide +kernel⟩, rfl, rfl⟩, tc_4 95 rfl rfl, tc_4 96 rfl rfl, ⟨7, TX7, 4, 8, rfl, rfl⟩⟩

abbrev kX7_cut : MK := (yX7_cut, cX7_cut, 2, (some .int), { frames := 0, cells := 0, slots := 0, locals := 0 })
theorem okX7_cut : OKs kX7_cut 2 := ⟨⟨tc_4 80 rfl rfl, tc_1 9 rfl rfl, ⟨by decide +kernel, by decide +kernel, by decide +kernel⟩, rfl, rfl⟩, tc_4 79 rfl rfl⟩

abbrev kX8_type : MK := (yX8_type, cX8_type, 2, (some .int), { frames := 7, cells := 0, slots := 0, locals := 146 })
theorem okX8_type : OKv kX8_type 1 := ⟨⟨tc_2 86 rfl rfl, tc_1 1 rfl rfl, ⟨by decide +kernel, by decide +kernel, by decide +kernel⟩, rfl, rfl⟩, tc_2 84 rfl rfl, tc_2 85 rfl rfl, ⟨8, TX8, 11, 0, rfl, rfl⟩⟩

abbrev kX8_wipe : MK := (yX8_wipe, cX8_wipe, 2, (some .int), { frames := 7, cells := 0, slots := 0, locals := 145 })
theorem okX8_wipe : OKv kX8_wipe 0 := ⟨⟨tc_2 134 rfl rfl, tc_1 1 rfl rfl, ⟨by decide +kernel, by decide +kernel, by decide +kernel⟩, rfl, rfl⟩, tc_2 132 rfl rfl, tc_2 133 rfl rfl, ⟨8, TX8, 11, 0, rfl, rfl⟩⟩

abbrev kX8_fault : MK := (yX8_fault, cX8_fault, 1, (some .int), { frames := 0, cells := 0, slots := 0, locals := 0 })
theorem okX8_fault : OKv kX8_fault 0 := ⟨⟨tc_2 142 rfl rfl, tc_1 1 rfl rfl, ⟨by decide +kernel, by decide +kernel, by decide +kernel⟩, rfl, rfl⟩, tc_2 140 rfl rfl, tc_2 141 rfl rfl, ⟨8, TX8, 11, 0, rfl, rfl⟩⟩

abbrev kX8_person : MK := (yX8_person, cX8_person, 3, (some .int), { frames := 2, cells := 0, slots := 0, locals := 42 })
theorem okX8_person : OKv kX8_person 2 := ⟨⟨tc_2 146 rfl rfl, tc_1 1 rfl rfl, ⟨by decide +kernel, by decide +kernel, by decide +kernel⟩, rfl, rfl⟩, tc_2 144 rfl rfl, tc_2 145 rfl rfl, ⟨8, TX8, 11, 0, rfl, rfl⟩⟩

abbrev kX8_tale : MK := (yX8_tale, cX8_tale, 2, (some .int), { frames := 2, cells := 0, slots := 0, locals := 42 })
theorem okX8_tale : OKv kX8_tale 1 := ⟨⟨tc_2 154 rfl rfl, tc_1 1 rfl rfl, ⟨by decide +kernel, by decide +kernel, by decide +kernel⟩, rfl, rfl⟩, tc_2 152 rfl rfl, tc_2 153 rfl rfl, ⟨8, TX8, 11, 0, rfl, rfl⟩⟩

abbrev kX8_law : MK := (yX8_law, cX8_law, 2, (some .int), { frames := 1, cells := 0, slots := 0, locals := 21 })
theorem okX8_law : OKv kX8_law 1 := ⟨⟨tc_2 162 rfl rfl, tc_1 1 rfl rfl, ⟨by decide +kernel, by decide +kernel, by decide +kernel⟩, rfl, rfl⟩, tc_2 160 rfl rfl, tc_2 161 rfl rfl, ⟨8, TX8, 11, 0, rfl, rfl⟩⟩

abbrev kX8_holds : MK := (yX8_holds, cX8_holds, 4, (some .int), { frames := 1, cells := 0, slots := 0, locals := 21 })
theorem okX8_holds : OKv kX8_holds 2 := ⟨⟨tc_2 166 rfl rfl, tc_1 1 rfl rfl, ⟨by decide +kernel, by decide +kernel, by decide +kernel⟩, rfl, rfl⟩, tc_2 164 rfl rfl, tc_2 165 rfl rfl, ⟨8, TX8, 11, 0, rfl, rfl⟩⟩

abbrev kX8_leaves : MK := (yX8_leaves, cX8_leaves, 4, (some .int), { frames := 1, cells := 0, slots := 0, locals := 21 })
theorem okX8_leaves : OKv kX8_leaves 2 := ⟨⟨tc_2 170 rfl rfl, tc_1 1 rfl rfl, ⟨by decide +kernel, by decide +kernel, by decide +kernel⟩, rfl, rfl⟩, tc_2 168 rfl rfl, tc_2 169 rfl rfl, ⟨8, TX8, 11, 0, rfl, rfl⟩⟩

abbrev kX8_quarters : MK := (yX8_quarters, cX8_quarters, 3, (some .int), { frames := 2, cells := 0, slots := 0, locals := 48 })
theorem okX8_quarters : OKv kX8_quarters 2 := ⟨⟨tc_2 174 rfl rfl, tc_1 1 rfl rfl, ⟨by decide +kernel, by decide +kernel, by decide +kernel⟩, rfl, rfl⟩, tc_2 172 rfl rfl, tc_2 173 rfl rfl, ⟨8, TX8, 11, 0, rfl, rfl⟩⟩

abbrev kX8_owes : MK := (yX8_owes, cX8_owes, 4, (some .long), { frames := 4, cells := 0, slots := 0, locals := 94 })
theorem okX8_owes : OKv kX8_owes 3 := ⟨⟨tc_2 199 rfl rfl, tc_1 1 rfl rfl, ⟨by decide +kernel, by decide +kernel, by decide +kernel⟩, rfl, rfl⟩, tc_2 197 rfl rfl, tc_2 198 rfl rfl, ⟨8, TX8, 11, 0, rfl, rfl⟩⟩

abbrev kX8_amount : MK := (yX8_amount, cX8_amount, 3, (some .long), { frames := 4, cells := 0, slots := 0, locals := 94 })
theorem okX8_amount : OKv kX8_amount 2 := ⟨⟨tc_3 48 rfl rfl, tc_1 1 rfl rfl, ⟨by decide +kernel, by decide +kernel, by decide +kernel⟩, rfl, rfl⟩, tc_3 46 rfl rfl, tc_3 47 rfl rfl, ⟨8, TX8, 11, 0, rfl, rfl⟩⟩

abbrev kX8_cost : MK := (yX8_cost, cX8_cost, 3, (some .long), { frames := 4, cells := 0, slots := 0, locals := 94 })
theorem okX8_cost : OKv kX8_cost 2 := ⟨⟨tc_3 62 rfl rfl, tc_1 1 rfl rfl, ⟨by decide +kernel, by decide +kernel, by decide +kernel⟩, rfl, rfl⟩, tc_3 60 rfl rfl, tc_3 61 rfl rfl, ⟨8, TX8, 11, 0, rfl, rfl⟩⟩

abbrev kX8_best : MK := (yX8_best, cX8_best, 3, (some .long), { frames := 6, cells := 0, slots := 0, locals := 144 })
theorem okX8_best : OKv kX8_best 2 := ⟨⟨tc_3 79 rfl rfl, tc_1 1 rfl rfl, ⟨by decide +kernel, by decide +kernel, by decide +kernel⟩, rfl, rfl⟩, tc_3 77 rfl rfl, tc_3 78 rfl rfl, ⟨8, TX8, 11, 0, rfl, rfl⟩⟩

abbrev kX8_rest : MK := (yX8_rest, cX8_rest, 4, (some .int), { frames := 7, cells := 0, slots := 0, locals := 168 })
theorem okX8_rest : OKv kX8_rest 2 := ⟨⟨tc_3 110 rfl rfl, tc_1 1 rfl rfl, ⟨by decide +kernel, by decide +kernel, by decide +kernel⟩, rfl, rfl⟩, tc_3 108 rfl rfl, tc_3 109 rfl rfl, ⟨8, TX8, 11, 0, rfl, rfl⟩⟩

abbrev kX8_order : MK := (yX8_order, cX8_order, 3, (some .int), { frames := 5, cells := 0, slots := 0, locals := 118 })
theorem okX8_order : OKv kX8_order 2 := ⟨⟨tc_3 128 rfl rfl, tc_1 1 rfl rfl, ⟨by decide +kernel, by decide +kernel, by decide +kernel⟩, rfl, rfl⟩, tc_3 126 rfl rfl, tc_3 127 rfl rfl, ⟨8, TX8, 11, 0, rfl, rfl⟩⟩

abbrev kX8_among : MK := (yX8_among, cX8_among, 2, (some .int), { frames := 5, cells := 0, slots := 0, locals := 121 })
theorem okX8_among : OKv kX8_among 1 := ⟨⟨tc_3 141 rfl rfl, tc_1 1 rfl rfl, ⟨by decide +kernel, by decide +kernel, by decide +kernel⟩, rfl, rfl⟩, tc_3 139 rfl rfl, tc_3 140 rfl rfl, ⟨8, TX8, 11, 0, rfl, rfl⟩⟩

abbrev kX8_hire : MK := (yX8_hire, cX8_hire, 6, (some .long), { frames := 4, cells := 0, slots := 0, locals := 94 })
theorem okX8_hire : OKv kX8_hire 3 := ⟨⟨tc_3 149 rfl rfl, tc_1 1 rfl rfl, ⟨by decide +kernel, by decide +kernel, by decide +kernel⟩, rfl, rfl⟩, tc_3 147 rfl rfl, tc_3 148 rfl rfl, ⟨8, TX8, 11, 0, rfl, rfl⟩⟩

abbrev kX8_other : MK := (yX8_other, cX8_other, 5, (some .long), { frames := 4, cells := 0, slots := 0, locals := 94 })
theorem okX8_other : OKv kX8_other 4 := ⟨⟨tc_3 157 rfl rfl, tc_1 1 rfl rfl, ⟨by decide +kernel, by decide +kernel, by decide +kernel⟩, rfl, rfl⟩, tc_3 155 rfl rfl, tc_3 156 rfl rfl, ⟨8, TX8, 11, 0, rfl, rfl⟩⟩

abbrev kX8_lawFor : MK := (yX8_lawFor, cX8_lawFor, 2, (some .int), { frames := 5, cells := 0, slots := 0, locals := 119 })
theorem okX8_lawFor : OKv kX8_lawFor 1 := ⟨⟨tc_3 161 rfl rfl, tc_1 1 rfl rfl, ⟨by decide +kernel, by decide +kernel, by decide +kernel⟩, rfl, rfl⟩, tc_3 159 rfl rfl, tc_3 160 rfl rfl, ⟨8, TX8, 11, 0, rfl, rfl⟩⟩

abbrev kX8_edge : MK := (yX8_edge, cX8_edge, 2, (some .int), { frames := 5, cells := 0, slots := 0, locals := 119 })
theorem okX8_edge : OKv kX8_edge 1 := ⟨⟨tc_3 169 rfl rfl, tc_1 1 rfl rfl, ⟨by decide +kernel, by decide +kernel, by decide +kernel⟩, rfl, rfl⟩, tc_3 167 rfl rfl, tc_3 168 rfl rfl, ⟨8, TX8, 11, 0, rfl, rfl⟩⟩

abbrev kX8_weight : MK := (yX8_weight, cX8_weight, 4, (some .int), { frames := 1, cells := 0, slots := 0, locals := 21 })
theorem okX8_weight : OKv kX8_weight 2 := ⟨⟨tc_3 177 rfl rfl, tc_1 1 rfl rfl, ⟨by decide +kernel, by decide +kernel, by decide +kernel⟩, rfl, rfl⟩, tc_3 175 rfl rfl, tc_3 176 rfl rfl, ⟨8, TX8, 11, 0, rfl, rfl⟩⟩

abbrev kX8_early : MK := (yX8_early, cX8_early, 7, (some .long), { frames := 4, cells := 0, slots := 0, locals := 94 })
theorem okX8_early : OKv kX8_early 2 := ⟨⟨tc_3 181 rfl rfl, tc_1 1 rfl rfl, ⟨by decide +kernel, by decide +kernel, by decide +kernel⟩, rfl, rfl⟩, tc_3 179 rfl rfl, tc_3 180 rfl rfl, ⟨8, TX8, 11, 0, rfl, rfl⟩⟩

abbrev kX8_two : MK := (yX8_two, cX8_two, 6, (some .long), { frames := 5, cells := 0, slots := 0, locals := 116 })
theorem okX8_two : OKv kX8_two 1 := ⟨⟨tc_3 190 rfl rfl, tc_1 1 rfl rfl, ⟨by decide +kernel, by decide +kernel, by decide +kernel⟩, rfl, rfl⟩, tc_3 188 rfl rfl, tc_3 189 rfl rfl, ⟨8, TX8, 11, 0, rfl, rfl⟩⟩

abbrev kX8_made : MK := (yX8_made, cX8_made, 2, (some .int), { frames := 4, cells := 0, slots := 0, locals := 97 })
theorem okX8_made : OKv kX8_made 1 := ⟨⟨tc_3 199 rfl rfl, tc_1 1 rfl rfl, ⟨by decide +kernel, by decide +kernel, by decide +kernel⟩, rfl, rfl⟩, tc_3 197 rfl rfl, tc_3 198 rfl rfl, ⟨8, TX8, 11, 0, rfl, rfl⟩⟩

abbrev kX8_evenings : MK := (yX8_evenings, cX8_evenings, 6, (some .int), { frames := 4, cells := 0, slots := 0, locals := 97 })
theorem okX8_evenings : OKv kX8_evenings 3 := ⟨⟨tc_3 224 rfl rfl, tc_1 1 rfl rfl, ⟨by decide +kernel, by decide +kernel, by decide +kernel⟩, rfl, rfl⟩, tc_3 222 rfl rfl, tc_3 223 rfl rfl, ⟨8, TX8, 11, 0, rfl, rfl⟩⟩

abbrev kX8_saw : MK := (yX8_saw, cX8_saw, 6, (some .int), { frames := 2, cells := 0, slots := 0, locals := 43 })
theorem okX8_saw : OKv kX8_saw 5 := ⟨⟨tc_3 228 rfl rfl, tc_1 1 rfl rfl, ⟨by decide +kernel, by decide +kernel, by decide +kernel⟩, rfl, rfl⟩, tc_3 226 rfl rfl, tc_3 227 rfl rfl, ⟨8, TX8, 11, 0, rfl, rfl⟩⟩

abbrev kX8_read : MK := (yX8_read, cX8_read, 8, (some .int), { frames := 2, cells := 0, slots := 0, locals := 43 })
theorem okX8_read : OKv kX8_read 2 := ⟨⟨tc_3 239 rfl rfl, tc_1 1 rfl rfl, ⟨by decide +kernel, by decide +kernel, by decide +kernel⟩, rfl, rfl⟩, tc_3 237 rfl rfl, tc_3 238 rfl rfl, ⟨8, TX8, 11, 0, rfl, rfl⟩⟩

abbrev kX8_off : MK := (yX8_off, cX8_off, 3, (some .int), { frames := 2, cells := 0, slots := 0, locals := 51 })
theorem okX8_off : OKv kX8_off 2 := ⟨⟨tc_4 18 rfl rfl, tc_1 1 rfl rfl, ⟨by decide +kernel, by decide +kernel, by decide +kernel⟩, rfl, rfl⟩, tc_4 16 rfl rfl, tc_4 17 rfl rfl, ⟨8, TX8, 11, 0, rfl, rfl⟩⟩

abbrev kX8_guess : MK := (yX8_guess, cX8_guess, 2, (some .int), { frames := 3, cells := 0, slots := 0, locals := 76 })
theorem okX8_guess : OKv kX8_guess 1 := ⟨⟨tc_4 27 rfl rfl, tc_1 1 rfl rfl, ⟨by decide +kernel, by decide +kernel, by decide +kernel⟩, rfl, rfl⟩, tc_4 25 rfl rfl, tc_4 26 rfl rfl, ⟨8, TX8, 11, 0, rfl, rfl⟩⟩

abbrev kX8_laughs : MK := (yX8_laughs, cX8_laughs, 4, (some .int), { frames := 2, cells := 0, slots := 0, locals := 41 })
theorem okX8_laughs : OKv kX8_laughs 3 := ⟨⟨tc_4 41 rfl rfl, tc_1 1 rfl rfl, ⟨by decide +kernel, by decide +kernel, by decide +kernel⟩, rfl, rfl⟩, tc_4 39 rfl rfl, tc_4 40 rfl rfl, ⟨8, TX8, 11, 0, rfl, rfl⟩⟩

abbrev kX8_sheet : MK := (yX8_sheet, cX8_sheet, 4, (some .int), { frames := 2, cells := 0, slots := 0, locals := 41 })
theorem okX8_sheet : OKv kX8_sheet 3 := ⟨⟨tc_4 49 rfl rfl, tc_1 1 rfl rfl, ⟨by decide +kernel, by decide +kernel, by decide +kernel⟩, rfl, rfl⟩, tc_4 47 rfl rfl, tc_4 48 rfl rfl, ⟨8, TX8, 11, 0, rfl, rfl⟩⟩

abbrev kX8_lose : MK := (yX8_lose, cX8_lose, 2, (some .int), { frames := 2, cells := 0, slots := 0, locals := 41 })
theorem okX8_lose : OKv kX8_lose 1 := ⟨⟨tc_4 60 rfl rfl, tc_1 1 rfl rfl, ⟨by decide +kernel, by decide +kernel, by decide +kernel⟩, rfl, rfl⟩, tc_4 58 rfl rfl, tc_4 59 rfl rfl, ⟨8, TX8, 11, 0, rfl, rfl⟩⟩

abbrev kX8_lay : MK := (yX8_lay, cX8_lay, 6, (some .int), { frames := 2, cells := 0, slots := 0, locals := 44 })
theorem okX8_lay : OKv kX8_lay 4 := ⟨⟨tc_4 68 rfl rfl, tc_1 1 rfl rfl, ⟨by decide +kernel, by decide +kernel, by decide +kernel⟩, rfl, rfl⟩, tc_4 66 rfl rfl, tc_4 67 rfl rfl, ⟨8, TX8, 11, 0, rfl, rfl⟩⟩

abbrev kX8_get : MK := (yX8_get, cX8_get, 5, (some .int), { frames := 2, cells := 0, slots := 0, locals := 44 })
theorem okX8_get : OKv kX8_get 3 := ⟨⟨tc_4 84 rfl rfl, tc_1 1 rfl rfl, ⟨by decide +kernel, by decide +kernel, by decide +kernel⟩, rfl, rfl⟩, tc_4 82 rfl rfl, tc_4 83 rfl rfl, ⟨8, TX8, 11, 0, rfl, rfl⟩⟩

abbrev kX8_copy : MK := (yX8_copy, cX8_copy, 6, (some .int), { frames := 2, cells := 0, slots := 0, locals := 51 })
theorem okX8_copy : OKv kX8_copy 5 := ⟨⟨tc_4 89 rfl rfl, tc_1 1 rfl rfl, ⟨by decide +kernel, by decide +kernel, by decide +kernel⟩, rfl, rfl⟩, tc_4 87 rfl rfl, tc_4 88 rfl rfl, ⟨8, TX8, 11, 0, rfl, rfl⟩⟩

abbrev kX8_write : MK := (yX8_write, cX8_write, 5, (some .int), { frames := 2, cells := 0, slots := 0, locals := 48 })
theorem okX8_write : OKv kX8_write 2 := ⟨⟨tc_4 102 rfl rfl, tc_1 1 rfl rfl, ⟨by decide +kernel, by decide +kernel, by decide +kernel⟩, rfl, rfl⟩, tc_4 100 rfl rfl, tc_4 101 rfl rfl, ⟨8, TX8, 11, 0, rfl, rfl⟩⟩

abbrev kX8_count : MK := (yX8_count, cX8_count, 2, (some .int), { frames := 1, cells := 0, slots := 0, locals := 25 })
theorem okX8_count : OKv kX8_count 1 := ⟨⟨tc_4 106 rfl rfl, tc_1 1 rfl rfl, ⟨by decide +kernel, by decide +kernel, by decide +kernel⟩, rfl, rfl⟩, tc_4 104 rfl rfl, tc_4 105 rfl rfl, ⟨8, TX8, 11, 0, rfl, rfl⟩⟩

abbrev kX8_digest : MK := (yX8_digest, cX8_digest, 4, (some .long), { frames := 7, cells := 0, slots := 0, locals := 170 })
theorem okX8_digest : OKv kX8_digest 0 := ⟨⟨tc_4 122 rfl rfl, tc_1 1 rfl rfl, ⟨by decide +kernel, by decide +kernel, by decide +kernel⟩, rfl, rfl⟩, tc_4 120 rfl rfl, tc_4 121 rfl rfl, ⟨8, TX8, 11, 0, rfl, rfl⟩⟩

abbrev kX8_digestOfWhoOwes : MK := (yX8_digestOfWhoOwes, cX8_digestOfWhoOwes, 7, (some .long), { frames := 4, cells := 0, slots := 0, locals := 94 })
theorem okX8_digestOfWhoOwes : OKv kX8_digestOfWhoOwes 2 := ⟨⟨tc_4 131 rfl rfl, tc_1 1 rfl rfl, ⟨by decide +kernel, by decide +kernel, by decide +kernel⟩, rfl, rfl⟩, tc_4 130 rfl rfl, tc_0 33 rfl rfl, ⟨8, TX8, 11, 0, rfl, rfl⟩⟩

abbrev kX8_digestOfSearches : MK := (yX8_digestOfSearches, cX8_digestOfSearches, 7, (some .long), { frames := 6, cells := 0, slots := 0, locals := 144 })
theorem okX8_digestOfSearches : OKv kX8_digestOfSearches 2 := ⟨⟨tc_4 140 rfl rfl, tc_1 1 rfl rfl, ⟨by decide +kernel, by decide +kernel, by decide +kernel⟩, rfl, rfl⟩, tc_4 139 rfl rfl, tc_0 34 rfl rfl, ⟨8, TX8, 11, 0, rfl, rfl⟩⟩

abbrev kX8_digestOfStrokes : MK := (yX8_digestOfStrokes, cX8_digestOfStrokes, 6, (some .long), { frames := 5, cells := 0, slots := 0, locals := 122 })
theorem okX8_digestOfStrokes : OKv kX8_digestOfStrokes 2 := ⟨⟨tc_4 144 rfl rfl, tc_1 1 rfl rfl, ⟨by decide +kernel, by decide +kernel, by decide +kernel⟩, rfl, rfl⟩, tc_4 143 rfl rfl, tc_0 35 rfl rfl, ⟨8, TX8, 11, 0, rfl, rfl⟩⟩

abbrev kX8_within : MK := (yX8_within, cX8_within, 2, (some .boolean), { frames := 0, cells := 0, slots := 0, locals := 0 })
theorem okX8_within : OKs kX8_within 2 := ⟨⟨tc_2 89 rfl rfl, tc_1 1 rfl rfl, ⟨by decide +kernel, by decide +kernel, by decide +kernel⟩, rfl, rfl⟩, tc_2 88 rfl rfl⟩

abbrev kX8_isPerson : MK := (yX8_isPerson, cX8_isPerson, 2, (some .boolean), { frames := 1, cells := 0, slots := 0, locals := 21 })
theorem okX8_isPerson : OKv kX8_isPerson 1 := ⟨⟨tc_2 150 rfl rfl, tc_1 1 rfl rfl, ⟨by decide +kernel, by decide +kernel, by decide +kernel⟩, rfl, rfl⟩, tc_2 149 rfl rfl, tc_0 9 rfl rfl, ⟨8, TX8, 11, 0, rfl, rfl⟩⟩

abbrev kX8_isTale : MK := (yX8_isTale, cX8_isTale, 2, (some .boolean), { frames := 1, cells := 0, slots := 0, locals := 21 })
theorem okX8_isTale : OKv kX8_isTale 1 := ⟨⟨tc_2 158 rfl rfl, tc_1 1 rfl rfl, ⟨by decide +kernel, by decide +kernel, by decide +kernel⟩, rfl, rfl⟩, tc_2 157 rfl rfl, tc_0 10 rfl rfl, ⟨8, TX8, 11, 0, rfl, rfl⟩⟩

abbrev kX8_isPart : MK := (yX8_isPart, cX8_isPart, 1, (some .boolean), { frames := 1, cells := 0, slots := 0, locals := 21 })
theorem okX8_isPart : OKs kX8_isPart 1 := ⟨⟨tc_2 202 rfl rfl, tc_1 1 rfl rfl, ⟨by decide +kernel, by decide +kernel, by decide +kernel⟩, rfl, rfl⟩, tc_2 201 rfl rfl⟩

abbrev kX8_isSheet : MK := (yX8_isSheet, cX8_isSheet, 1, (some .boolean), { frames := 1, cells := 0, slots := 0, locals := 21 })
theorem okX8_isSheet : OKs kX8_isSheet 1 := ⟨⟨tc_4 2 rfl rfl, tc_1 1 rfl rfl, ⟨by decide +kernel, by decide +kernel, by decide +kernel⟩, rfl, rfl⟩, tc_4 1 rfl rfl⟩

abbrev kX8_isForm : MK := (yX8_isForm, cX8_isForm, 1, (some .boolean), { frames := 1, cells := 0, slots := 0, locals := 21 })
theorem okX8_isForm : OKs kX8_isForm 1 := ⟨⟨tc_4 52 rfl rfl, tc_1 1 rfl rfl, ⟨by decide +kernel, by decide +kernel, by decide +kernel⟩, rfl, rfl⟩, tc_4 51 rfl rfl⟩

abbrev kX8_mayBeSeen : MK := (yX8_mayBeSeen, cX8_mayBeSeen, 3, (some .boolean), { frames := 1, cells := 0, slots := 0, locals := 21 })
theorem okX8_mayBeSeen : OKs kX8_mayBeSeen 3 := ⟨⟨tc_3 231 rfl rfl, tc_1 1 rfl rfl, ⟨by decide +kernel, by decide +kernel, by decide +kernel⟩, rfl, rfl⟩, tc_3 230 rfl rfl⟩

abbrev kX8_asLong : MK := (yX8_asLong, cX8_asLong, 1, (some .long), { frames := 0, cells := 0, slots := 0, locals := 0 })
theorem okX8_asLong : OKs kX8_asLong 1 := ⟨⟨tc_2 205 rfl rfl, tc_1 1 rfl rfl, ⟨by decide +kernel, by decide +kernel, by decide +kernel⟩, rfl, rfl⟩, tc_2 204 rfl rfl⟩

abbrev kX8_hasBit : MK := (yX8_hasBit, cX8_hasBit, 2, (some .boolean), { frames := 0, cells := 0, slots := 0, locals := 0 })
theorem okX8_hasBit : OKs kX8_hasBit 2 := ⟨⟨tc_2 192 rfl rfl, tc_1 1 rfl rfl, ⟨by decide +kernel, by decide +kernel, by decide +kernel⟩, rfl, rfl⟩, tc_2 191 rfl rfl⟩

abbrev kX8_quartersOf : MK := (yX8_quartersOf, cX8_quartersOf, 6, (some .int), { frames := 0, cells := 0, slots := 0, locals := 0 })
theorem okX8_quartersOf : OKs kX8_quartersOf 4 := ⟨⟨tc_2 195 rfl rfl, tc_1 1 rfl rfl, ⟨by decide +kernel, by decide +kernel, by decide +kernel⟩, rfl, rfl⟩, tc_2 194 rfl rfl⟩

abbrev kX8_shareOwed : MK := (yX8_shareOwed, cX8_shareOwed, 3, (some (.object "LaughsLast$Share")), { frames := 2, cells := 0, slots := 0, locals := 56 })
theorem okX8_shareOwed : OKv kX8_shareOwed 2 := ⟨⟨tc_3 22 rfl rfl, tc_1 1 rfl rfl, ⟨by decide +kernel, by decide +kernel, by decide +kernel⟩, rfl, rfl⟩, tc_3 21 rfl rfl, tc_0 20 rfl rfl, ⟨8, TX8, 11, 0, rfl, rfl⟩⟩

abbrev kX8_shareOfDebt : MK := (yX8_shareOfDebt, cX8_shareOfDebt, 2, (some (.object "LaughsLast$Share")), { frames := 2, cells := 0, slots := 0, locals := 56 })
theorem okX8_shareOfDebt : OKv kX8_shareOfDebt 1 := ⟨⟨tc_3 52 rfl rfl, tc_1 1 rfl rfl, ⟨by decide +kernel, by decide +kernel, by decide +kernel⟩, rfl, rfl⟩, tc_3 51 rfl rfl, tc_0 21 rfl rfl, ⟨8, TX8, 11, 0, rfl, rfl⟩⟩

abbrev kX8_shareOfCost : MK := (yX8_shareOfCost, cX8_shareOfCost, 3, (some (.object "LaughsLast$Share")), { frames := 2, cells := 0, slots := 0, locals := 56 })
theorem okX8_shareOfCost : OKv kX8_shareOfCost 1 := ⟨⟨tc_3 75 rfl rfl, tc_1 1 rfl rfl, ⟨by decide +kernel, by decide +kernel, by decide +kernel⟩, rfl, rfl⟩, tc_3 74 rfl rfl, tc_0 22 rfl rfl, ⟨8, TX8, 11, 0, rfl, rfl⟩⟩

abbrev kX8_restTold : MK := (yX8_restTold, cX8_restTold, 3, (some .int), { frames := 0, cells := 0, slots := 0, locals := 0 })
theorem okX8_restTold : OKv kX8_restTold 2 := ⟨⟨tc_3 124 rfl rfl, tc_1 1 rfl rfl, ⟨by decide +kernel, by decide +kernel, by decide +kernel⟩, rfl, rfl⟩, tc_3 123 rfl rfl, tc_0 26 rfl rfl, ⟨8, TX8, 11, 0, rfl, rfl⟩⟩

abbrev kX8_totalWeight : MK := (yX8_totalWeight, cX8_totalWeight, 6, (some .int), { frames := 0, cells := 0, slots := 0, locals := 0 })
theorem okX8_totalWeight : OKv kX8_totalWeight 0 := ⟨⟨tc_3 185 rfl rfl, tc_1 1 rfl rfl, ⟨by decide +kernel, by decide +kernel, by decide +kernel⟩, rfl, rfl⟩, tc_3 184 rfl rfl, tc_0 28 rfl rfl, ⟨8, TX8, 11, 0, rfl, rfl⟩⟩

abbrev kX9_in : MK := (yX9_in, cX9_in, 6, (some .boolean), { frames := 0, cells := 0, slots := 0, locals := 0 })
theorem okX9_in : OKs kX9_in 3 := ⟨⟨tc_5 47 rfl rfl, tc_1 10 rfl rfl, ⟨by decide +kernel, by decide +kernel, by decide +kernel⟩, rfl, rfl⟩, tc_5 46 rfl rfl⟩

abbrev kX9_no : MK := (yX9_no, cX9_no, 1, (some .long), { frames := 0, cells := 0, slots := 0, locals := 0 })
theorem okX9_no : OKs kX9_no 1 := ⟨⟨tc_5 222 rfl rfl, tc_1 10 rfl rfl, ⟨by decide +kernel, by decide +kernel, by decide +kernel⟩, rfl, rfl⟩, tc_5 221 rfl rfl⟩

abbrev kX9_isTwo : MK := (yX9_isTwo, cX9_isTwo, 1, (some .boolean), { frames := 1, cells := 0, slots := 0, locals := 25 })
theorem okX9_isTwo : OKs kX9_isTwo 1 := ⟨⟨tc_5 184 rfl rfl, tc_1 10 rfl rfl, ⟨by decide +kernel, by decide +kernel, by decide +kernel⟩, rfl, rfl⟩, tc_5 183 rfl rfl⟩

abbrev kX9_met : MK := (yX9_met, cX9_met, 2, (some .int), { frames := 0, cells := 0, slots := 0, locals := 0 })
theorem okX9_met : OKv kX9_met 1 := ⟨⟨tc_5 52 rfl rfl, tc_1 10 rfl rfl, ⟨by decide +kernel, by decide +kernel, by decide +kernel⟩, rfl, rfl⟩, tc_5 51 rfl rfl, tc_0 36 rfl rfl, ⟨9, TX9, 40, 9, rfl, rfl⟩⟩

abbrev kX9_isSheet : MK := (yX9_isSheet, cX9_isSheet, 1, (some .boolean), { frames := 1, cells := 0, slots := 0, locals := 25 })
theorem okX9_isSheet : OKs kX9_isSheet 1 := ⟨⟨tc_5 43 rfl rfl, tc_1 10 rfl rfl, ⟨by decide +kernel, by decide +kernel, by decide +kernel⟩, rfl, rfl⟩, tc_5 42 rfl rfl⟩

abbrev kX9_sheet : MK := (yX9_sheet, cX9_sheet, 5, (some .int), { frames := 2, cells := 0, slots := 0, locals := 45 })
theorem okX9_sheet : OKv kX9_sheet 3 := ⟨⟨tc_5 40 rfl rfl, tc_1 10 rfl rfl, ⟨by decide +kernel, by decide +kernel, by decide +kernel⟩, rfl, rfl⟩, tc_5 38 rfl rfl, tc_5 39 rfl rfl, ⟨9, TX9, 40, 9, rfl, rfl⟩⟩

abbrev kX9_lose : MK := (yX9_lose, cX9_lose, 2, (some .int), { frames := 2, cells := 0, slots := 0, locals := 45 })
theorem okX9_lose : OKv kX9_lose 1 := ⟨⟨tc_5 56 rfl rfl, tc_1 10 rfl rfl, ⟨by decide +kernel, by decide +kernel, by decide +kernel⟩, rfl, rfl⟩, tc_5 54 rfl rfl, tc_5 55 rfl rfl, ⟨9, TX9, 40, 9, rfl, rfl⟩⟩

abbrev kX9_lacks : MK := (yX9_lacks, cX9_lacks, 4, (some .int), { frames := 1, cells := 0, slots := 0, locals := 25 })
theorem okX9_lacks : OKv kX9_lacks 3 := ⟨⟨tc_5 64 rfl rfl, tc_1 10 rfl rfl, ⟨by decide +kernel, by decide +kernel, by decide +kernel⟩, rfl, rfl⟩, tc_5 63 rfl rfl, tc_0 37 rfl rfl, ⟨9, TX9, 40, 9, rfl, rfl⟩⟩

abbrev kX9_cut : MK := (yX9_cut, cX9_cut, 2, (some .int), { frames := 0, cells := 0, slots := 0, locals := 0 })
theorem okX9_cut : OKs kX9_cut 2 := ⟨⟨tc_5 67 rfl rfl, tc_1 10 rfl rfl, ⟨by decide +kernel, by decide +kernel, by decide +kernel⟩, rfl, rfl⟩, tc_5 66 rfl rfl⟩

abbrev kX9_lay : MK := (yX9_lay, cX9_lay, 6, (some .int), { frames := 2, cells := 0, slots := 0, locals := 48 })
theorem okX9_lay : OKv kX9_lay 4 := ⟨⟨tc_5 60 rfl rfl, tc_1 10 rfl rfl, ⟨by decide +kernel, by decide +kernel, by decide +kernel⟩, rfl, rfl⟩, tc_5 58 rfl rfl, tc_5 59 rfl rfl, ⟨9, TX9, 40, 9, rfl, rfl⟩⟩

abbrev kX9_get : MK := (yX9_get, cX9_get, 4, (some .int), { frames := 2, cells := 0, slots := 0, locals := 48 })
theorem okX9_get : OKv kX9_get 3 := ⟨⟨tc_5 71 rfl rfl, tc_1 10 rfl rfl, ⟨by decide +kernel, by decide +kernel, by decide +kernel⟩, rfl, rfl⟩, tc_5 69 rfl rfl, tc_5 70 rfl rfl, ⟨9, TX9, 40, 9, rfl, rfl⟩⟩

abbrev kX9_copy : MK := (yX9_copy, cX9_copy, 7, (some .int), { frames := 2, cells := 0, slots := 0, locals := 45 })
theorem okX9_copy : OKv kX9_copy 5 := ⟨⟨tc_5 76 rfl rfl, tc_1 10 rfl rfl, ⟨by decide +kernel, by decide +kernel, by decide +kernel⟩, rfl, rfl⟩, tc_5 74 rfl rfl, tc_5 75 rfl rfl, ⟨9, TX9, 40, 9, rfl, rfl⟩⟩

abbrev kX9_type : MK := (yX9_type, cX9_type, 2, (some .int), { frames := 1, cells := 0, slots := 0, locals := 25 })
theorem okX9_type : OKv kX9_type 1 := ⟨⟨tc_5 80 rfl rfl, tc_1 10 rfl rfl, ⟨by decide +kernel, by decide +kernel, by decide +kernel⟩, rfl, rfl⟩, tc_5 78 rfl rfl, tc_5 79 rfl rfl, ⟨9, TX9, 40, 9, rfl, rfl⟩⟩

abbrev kX9_wipe : MK := (yX9_wipe, cX9_wipe, 2, (some .int), { frames := 0, cells := 0, slots := 0, locals := 0 })
theorem okX9_wipe : OKv kX9_wipe 0 := ⟨⟨tc_5 85 rfl rfl, tc_1 10 rfl rfl, ⟨by decide +kernel, by decide +kernel, by decide +kernel⟩, rfl, rfl⟩, tc_5 83 rfl rfl, tc_5 84 rfl rfl, ⟨9, TX9, 40, 9, rfl, rfl⟩⟩

abbrev kX9_here : MK := (yX9_here, cX9_here, 1, (some .int), { frames := 0, cells := 0, slots := 0, locals := 0 })
theorem okX9_here : OKv kX9_here 0 := ⟨⟨tc_5 105 rfl rfl, tc_1 10 rfl rfl, ⟨by decide +kernel, by decide +kernel, by decide +kernel⟩, rfl, rfl⟩, tc_5 104 rfl rfl, tc_0 41 rfl rfl, ⟨9, TX9, 40, 9, rfl, rfl⟩⟩

abbrev kX9_clears : MK := (yX9_clears, cX9_clears, 2, none, { frames := 0, cells := 0, slots := 0, locals := 0 })
theorem okX9_clears : OKv kX9_clears 0 := ⟨⟨tc_5 97 rfl rfl, tc_1 10 rfl rfl, ⟨by decide +kernel, by decide +kernel, by decide +kernel⟩, rfl, rfl⟩, tc_5 96 rfl rfl, tc_0 39 rfl rfl, ⟨9, TX9, 40, 9, rfl, rfl⟩⟩

abbrev kX9_figure : MK := (yX9_figure, cX9_figure, 3, (some .int), { frames := 1, cells := 0, slots := 0, locals := 25 })
theorem okX9_figure : OKv kX9_figure 1 := ⟨⟨tc_5 113 rfl rfl, tc_1 10 rfl rfl, ⟨by decide +kernel, by decide +kernel, by decide +kernel⟩, rfl, rfl⟩, tc_5 112 rfl rfl, tc_0 43 rfl rfl, ⟨9, TX9, 40, 9, rfl, rfl⟩⟩

abbrev kX9_readsPerson : MK := (yX9_readsPerson, cX9_readsPerson, 3, (some .boolean), { frames := 2, cells := 0, slots := 0, locals := 47 })
theorem okX9_readsPerson : OKv kX9_readsPerson 0 := ⟨⟨tc_5 109 rfl rfl, tc_1 10 rfl rfl, ⟨by decide +kernel, by decide +kernel, by decide +kernel⟩, rfl, rfl⟩, tc_5 108 rfl rfl, tc_0 42 rfl rfl, ⟨9, TX9, 40, 9, rfl, rfl⟩⟩

abbrev kX9_readsTale : MK := (yX9_readsTale, cX9_readsTale, 2, (some .boolean), { frames := 2, cells := 0, slots := 0, locals := 47 })
theorem okX9_readsTale : OKv kX9_readsTale 0 := ⟨⟨tc_5 117 rfl rfl, tc_1 10 rfl rfl, ⟨by decide +kernel, by decide +kernel, by decide +kernel⟩, rfl, rfl⟩, tc_5 116 rfl rfl, tc_0 44 rfl rfl, ⟨9, TX9, 40, 9, rfl, rfl⟩⟩

abbrev kX9_readsLaw : MK := (yX9_readsLaw, cX9_readsLaw, 3, (some .boolean), { frames := 2, cells := 0, slots := 0, locals := 47 })
theorem okX9_readsLaw : OKv kX9_readsLaw 1 := ⟨⟨tc_5 121 rfl rfl, tc_1 10 rfl rfl, ⟨by decide +kernel, by decide +kernel, by decide +kernel⟩, rfl, rfl⟩, tc_5 120 rfl rfl, tc_0 45 rfl rfl, ⟨9, TX9, 40, 9, rfl, rfl⟩⟩

abbrev kX9_readsPart : MK := (yX9_readsPart, cX9_readsPart, 2, (some .boolean), { frames := 3, cells := 0, slots := 0, locals := 69 })
theorem okX9_readsPart : OKv kX9_readsPart 0 := ⟨⟨tc_5 101 rfl rfl, tc_1 10 rfl rfl, ⟨by decide +kernel, by decide +kernel, by decide +kernel⟩, rfl, rfl⟩, tc_5 100 rfl rfl, tc_0 40 rfl rfl, ⟨9, TX9, 40, 9, rfl, rfl⟩⟩

abbrev kX9_reads : MK := (yX9_reads, cX9_reads, 2, (some .int), { frames := 4, cells := 0, slots := 0, locals := 90 })
theorem okX9_reads : OKv kX9_reads 0 := ⟨⟨tc_5 93 rfl rfl, tc_1 10 rfl rfl, ⟨by decide +kernel, by decide +kernel, by decide +kernel⟩, rfl, rfl⟩, tc_5 92 rfl rfl, tc_0 38 rfl rfl, ⟨9, TX9, 40, 9, rfl, rfl⟩⟩

abbrev kX9_fault : MK := (yX9_fault, cX9_fault, 1, (some .int), { frames := 5, cells := 0, slots := 0, locals := 111 })
theorem okX9_fault : OKv kX9_fault 0 := ⟨⟨tc_5 89 rfl rfl, tc_1 10 rfl rfl, ⟨by decide +kernel, by decide +kernel, by decide +kernel⟩, rfl, rfl⟩, tc_5 87 rfl rfl, tc_5 88 rfl rfl, ⟨9, TX9, 40, 9, rfl, rfl⟩⟩

abbrev kX9_isPerson : MK := (yX9_isPerson, cX9_isPerson, 2, (some .boolean), { frames := 5, cells := 0, slots := 0, locals := 111 })
theorem okX9_isPerson : OKv kX9_isPerson 1 := ⟨⟨tc_5 129 rfl rfl, tc_1 10 rfl rfl, ⟨by decide +kernel, by decide +kernel, by decide +kernel⟩, rfl, rfl⟩, tc_5 128 rfl rfl, tc_0 46 rfl rfl, ⟨9, TX9, 40, 9, rfl, rfl⟩⟩

abbrev kX9_isAnyone : MK := (yX9_isAnyone, cX9_isAnyone, 1, (some .boolean), { frames := 1, cells := 0, slots := 0, locals := 25 })
theorem okX9_isAnyone : OKs kX9_isAnyone 1 := ⟨⟨tc_5 148 rfl rfl, tc_1 10 rfl rfl, ⟨by decide +kernel, by decide +kernel, by decide +kernel⟩, rfl, rfl⟩, tc_5 147 rfl rfl⟩

abbrev kX9_person : MK := (yX9_person, cX9_person, 3, (some .int), { frames := 6, cells := 0, slots := 0, locals := 132 })
theorem okX9_person : OKv kX9_person 2 := ⟨⟨tc_5 125 rfl rfl, tc_1 10 rfl rfl, ⟨by decide +kernel, by decide +kernel, by decide +kernel⟩, rfl, rfl⟩, tc_5 123 rfl rfl, tc_5 124 rfl rfl, ⟨9, TX9, 40, 9, rfl, rfl⟩⟩

abbrev kX9_tale : MK := (yX9_tale, cX9_tale, 2, (some .int), { frames := 5, cells := 0, slots := 0, locals := 111 })
theorem okX9_tale : OKv kX9_tale 1 := ⟨⟨tc_5 133 rfl rfl, tc_1 10 rfl rfl, ⟨by decide +kernel, by decide +kernel, by decide +kernel⟩, rfl, rfl⟩, tc_5 131 rfl rfl, tc_5 132 rfl rfl, ⟨9, TX9, 40, 9, rfl, rfl⟩⟩

abbrev kX9_lawNow : MK := (yX9_lawNow, cX9_lawNow, 2, (some .int), { frames := 5, cells := 0, slots := 0, locals := 111 })
theorem okX9_lawNow : OKv kX9_lawNow 1 := ⟨⟨tc_5 141 rfl rfl, tc_1 10 rfl rfl, ⟨by decide +kernel, by decide +kernel, by decide +kernel⟩, rfl, rfl⟩, tc_5 140 rfl rfl, tc_0 47 rfl rfl, ⟨9, TX9, 40, 9, rfl, rfl⟩⟩

abbrev kX9_law : MK := (yX9_law, cX9_law, 2, (some .int), { frames := 6, cells := 0, slots := 0, locals := 132 })
theorem okX9_law : OKv kX9_law 1 := ⟨⟨tc_5 137 rfl rfl, tc_1 10 rfl rfl, ⟨by decide +kernel, by decide +kernel, by decide +kernel⟩, rfl, rfl⟩, tc_5 135 rfl rfl, tc_5 136 rfl rfl, ⟨9, TX9, 40, 9, rfl, rfl⟩⟩

abbrev kX9_holds : MK := (yX9_holds, cX9_holds, 4, (some .int), { frames := 2, cells := 0, slots := 0, locals := 45 })
theorem okX9_holds : OKv kX9_holds 2 := ⟨⟨tc_5 145 rfl rfl, tc_1 10 rfl rfl, ⟨by decide +kernel, by decide +kernel, by decide +kernel⟩, rfl, rfl⟩, tc_5 143 rfl rfl, tc_5 144 rfl rfl, ⟨9, TX9, 40, 9, rfl, rfl⟩⟩

abbrev kX9_leaves : MK := (yX9_leaves, cX9_leaves, 4, (some .int), { frames := 2, cells := 0, slots := 0, locals := 45 })
theorem okX9_leaves : OKv kX9_leaves 2 := ⟨⟨tc_5 153 rfl rfl, tc_1 10 rfl rfl, ⟨by decide +kernel, by decide +kernel, by decide +kernel⟩, rfl, rfl⟩, tc_5 151 rfl rfl, tc_5 152 rfl rfl, ⟨9, TX9, 40, 9, rfl, rfl⟩⟩

abbrev kX9_tries : MK := (yX9_tries, cX9_tries, 2, none, { frames := 6, cells := 0, slots := 0, locals := 132 })
theorem okX9_tries : OKv kX9_tries 0 := ⟨⟨tc_5 166 rfl rfl, tc_1 10 rfl rfl, ⟨by decide +kernel, by decide +kernel, by decide +kernel⟩, rfl, rfl⟩, tc_5 165 rfl rfl, tc_0 49 rfl rfl, ⟨9, TX9, 40, 9, rfl, rfl⟩⟩

abbrev kX9_quartersBy : MK := (yX9_quartersBy, cX9_quartersBy, 5, (some .int), { frames := 0, cells := 0, slots := 0, locals := 0 })
theorem okX9_quartersBy : OKs kX9_quartersBy 4 := ⟨⟨tc_5 177 rfl rfl, tc_1 10 rfl rfl, ⟨by decide +kernel, by decide +kernel, by decide +kernel⟩, rfl, rfl⟩, tc_5 176 rfl rfl⟩

abbrev kX9_isThere : MK := (yX9_isThere, cX9_isThere, 3, (some .boolean), { frames := 0, cells := 0, slots := 0, locals := 0 })
theorem okX9_isThere : OKv kX9_isThere 2 := ⟨⟨tc_5 174 rfl rfl, tc_1 10 rfl rfl, ⟨by decide +kernel, by decide +kernel, by decide +kernel⟩, rfl, rfl⟩, tc_5 173 rfl rfl, tc_0 51 rfl rfl, ⟨9, TX9, 40, 9, rfl, rfl⟩⟩

abbrev kX9_quartersNow : MK := (yX9_quartersNow, cX9_quartersNow, 4, (some .int), { frames := 1, cells := 0, slots := 0, locals := 24 })
theorem okX9_quartersNow : OKv kX9_quartersNow 2 := ⟨⟨tc_5 170 rfl rfl, tc_1 10 rfl rfl, ⟨by decide +kernel, by decide +kernel, by decide +kernel⟩, rfl, rfl⟩, tc_5 169 rfl rfl, tc_0 50 rfl rfl, ⟨9, TX9, 40, 9, rfl, rfl⟩⟩

abbrev kX9_quartersOf : MK := (yX9_quartersOf, cX9_quartersOf, 3, (some .int), { frames := 7, cells := 0, slots := 0, locals := 153 })
theorem okX9_quartersOf : OKv kX9_quartersOf 2 := ⟨⟨tc_5 162 rfl rfl, tc_1 10 rfl rfl, ⟨by decide +kernel, by decide +kernel, by decide +kernel⟩, rfl, rfl⟩, tc_5 161 rfl rfl, tc_0 48 rfl rfl, ⟨9, TX9, 40, 9, rfl, rfl⟩⟩

abbrev kX9_quarters : MK := (yX9_quarters, cX9_quarters, 3, (some .int), { frames := 8, cells := 0, slots := 0, locals := 175 })
theorem okX9_quarters : OKv kX9_quarters 2 := ⟨⟨tc_5 158 rfl rfl, tc_1 10 rfl rfl, ⟨by decide +kernel, by decide +kernel, by decide +kernel⟩, rfl, rfl⟩, tc_5 156 rfl rfl, tc_5 157 rfl rfl, ⟨9, TX9, 40, 9, rfl, rfl⟩⟩

abbrev kX9_ones : MK := (yX9_ones, cX9_ones, 3, (some .int), { frames := 0, cells := 0, slots := 0, locals := 0 })
theorem okX9_ones : OKs kX9_ones 1 := ⟨⟨tc_5 203 rfl rfl, tc_1 10 rfl rfl, ⟨by decide +kernel, by decide +kernel, by decide +kernel⟩, rfl, rfl⟩, tc_5 202 rfl rfl⟩

abbrev kX9_comes : MK := (yX9_comes, cX9_comes, 9, none, { frames := 0, cells := 0, slots := 0, locals := 0 })
theorem okX9_comes : OKv kX9_comes 3 := ⟨⟨tc_5 208 rfl rfl, tc_1 10 rfl rfl, ⟨by decide +kernel, by decide +kernel, by decide +kernel⟩, rfl, rfl⟩, tc_5 207 rfl rfl, tc_0 56 rfl rfl, ⟨9, TX9, 40, 9, rfl, rfl⟩⟩

abbrev kX9_laugh : MK := (yX9_laugh, cX9_laugh, 9, none, { frames := 1, cells := 0, slots := 0, locals := 28 })
theorem okX9_laugh : OKv kX9_laugh 3 := ⟨⟨tc_5 200 rfl rfl, tc_1 10 rfl rfl, ⟨by decide +kernel, by decide +kernel, by decide +kernel⟩, rfl, rfl⟩, tc_5 199 rfl rfl, tc_0 55 rfl rfl, ⟨9, TX9, 40, 9, rfl, rfl⟩⟩

abbrev kX9_tells : MK := (yX9_tells, cX9_tells, 7, none, { frames := 2, cells := 0, slots := 0, locals := 56 })
theorem okX9_tells : OKv kX9_tells 1 := ⟨⟨tc_5 196 rfl rfl, tc_1 10 rfl rfl, ⟨by decide +kernel, by decide +kernel, by decide +kernel⟩, rfl, rfl⟩, tc_5 195 rfl rfl, tc_0 54 rfl rfl, ⟨9, TX9, 40, 9, rfl, rfl⟩⟩

abbrev kX9_goes : MK := (yX9_goes, cX9_goes, 3, none, { frames := 3, cells := 0, slots := 0, locals := 82 })
theorem okX9_goes : OKv kX9_goes 1 := ⟨⟨tc_5 192 rfl rfl, tc_1 10 rfl rfl, ⟨by decide +kernel, by decide +kernel, by decide +kernel⟩, rfl, rfl⟩, tc_5 191 rfl rfl, tc_0 53 rfl rfl, ⟨9, TX9, 40, 9, rfl, rfl⟩⟩

abbrev kX9_whole : MK := (yX9_whole, cX9_whole, 4, (some .long), { frames := 0, cells := 0, slots := 0, locals := 0 })
theorem okX9_whole : OKs kX9_whole 1 := ⟨⟨tc_5 215 rfl rfl, tc_1 10 rfl rfl, ⟨by decide +kernel, by decide +kernel, by decide +kernel⟩, rfl, rfl⟩, tc_5 214 rfl rfl⟩

abbrev kX9_partsOf : MK := (yX9_partsOf, cX9_partsOf, 5, (some .long), { frames := 0, cells := 0, slots := 0, locals := 0 })
theorem okX9_partsOf : OKv kX9_partsOf 1 := ⟨⟨tc_5 212 rfl rfl, tc_1 10 rfl rfl, ⟨by decide +kernel, by decide +kernel, by decide +kernel⟩, rfl, rfl⟩, tc_5 211 rfl rfl, tc_0 57 rfl rfl, ⟨9, TX9, 40, 9, rfl, rfl⟩⟩

abbrev kX9_amountNow : MK := (yX9_amountNow, cX9_amountNow, 5, (some .long), { frames := 4, cells := 0, slots := 0, locals := 104 })
theorem okX9_amountNow : OKv kX9_amountNow 1 := ⟨⟨tc_5 235 rfl rfl, tc_1 10 rfl rfl, ⟨by decide +kernel, by decide +kernel, by decide +kernel⟩, rfl, rfl⟩, tc_5 234 rfl rfl, tc_0 59 rfl rfl, ⟨9, TX9, 40, 9, rfl, rfl⟩⟩

abbrev kX9_all : MK := (yX9_all, cX9_all, 1, (some .long), { frames := 1, cells := 0, slots := 0, locals := 23 })
theorem okX9_all : OKv kX9_all 0 := ⟨⟨tc_6 0 rfl rfl, tc_1 10 rfl rfl, ⟨by decide +kernel, by decide +kernel, by decide +kernel⟩, rfl, rfl⟩, tc_5 239 rfl rfl, tc_0 60 rfl rfl, ⟨9, TX9, 40, 9, rfl, rfl⟩⟩

abbrev kX9_costNow : MK := (yX9_costNow, cX9_costNow, 4, (some .long), { frames := 5, cells := 0, slots := 0, locals := 128 })
theorem okX9_costNow : OKv kX9_costNow 1 := ⟨⟨tc_6 12 rfl rfl, tc_1 10 rfl rfl, ⟨by decide +kernel, by decide +kernel, by decide +kernel⟩, rfl, rfl⟩, tc_6 11 rfl rfl, tc_0 62 rfl rfl, ⟨9, TX9, 40, 9, rfl, rfl⟩⟩

abbrev kX9_part : MK := (yX9_part, cX9_part, 11, (some .long), { frames := 0, cells := 0, slots := 0, locals := 0 })
theorem okX9_part : OKs kX9_part 3 := ⟨⟨tc_5 219 rfl rfl, tc_1 10 rfl rfl, ⟨by decide +kernel, by decide +kernel, by decide +kernel⟩, rfl, rfl⟩, tc_5 218 rfl rfl⟩

abbrev kX9_owesOf : MK := (yX9_owesOf, cX9_owesOf, 4, (some .long), { frames := 7, cells := 0, slots := 0, locals := 153 })
theorem okX9_owesOf : OKv kX9_owesOf 3 := ⟨⟨tc_5 188 rfl rfl, tc_1 10 rfl rfl, ⟨by decide +kernel, by decide +kernel, by decide +kernel⟩, rfl, rfl⟩, tc_5 187 rfl rfl, tc_0 52 rfl rfl, ⟨9, TX9, 40, 9, rfl, rfl⟩⟩

abbrev kX9_owes : MK := (yX9_owes, cX9_owes, 4, (some .long), { frames := 8, cells := 0, slots := 0, locals := 176 })
theorem okX9_owes : OKv kX9_owes 3 := ⟨⟨tc_5 181 rfl rfl, tc_1 10 rfl rfl, ⟨by decide +kernel, by decide +kernel, by decide +kernel⟩, rfl, rfl⟩, tc_5 179 rfl rfl, tc_5 180 rfl rfl, ⟨9, TX9, 40, 9, rfl, rfl⟩⟩

abbrev kX9_amountOf : MK := (yX9_amountOf, cX9_amountOf, 3, (some .long), { frames := 7, cells := 0, slots := 0, locals := 153 })
theorem okX9_amountOf : OKv kX9_amountOf 2 := ⟨⟨tc_5 231 rfl rfl, tc_1 10 rfl rfl, ⟨by decide +kernel, by decide +kernel, by decide +kernel⟩, rfl, rfl⟩, tc_5 230 rfl rfl, tc_0 58 rfl rfl, ⟨9, TX9, 40, 9, rfl, rfl⟩⟩

abbrev kX9_amount : MK := (yX9_amount, cX9_amount, 3, (some .long), { frames := 8, cells := 0, slots := 0, locals := 175 })
theorem okX9_amount : OKv kX9_amount 2 := ⟨⟨tc_5 227 rfl rfl, tc_1 10 rfl rfl, ⟨by decide +kernel, by decide +kernel, by decide +kernel⟩, rfl, rfl⟩, tc_5 225 rfl rfl, tc_5 226 rfl rfl, ⟨9, TX9, 40, 9, rfl, rfl⟩⟩

abbrev kX9_costOf : MK := (yX9_costOf, cX9_costOf, 3, (some .long), { frames := 7, cells := 0, slots := 0, locals := 153 })
theorem okX9_costOf : OKv kX9_costOf 2 := ⟨⟨tc_6 8 rfl rfl, tc_1 10 rfl rfl, ⟨by decide +kernel, by decide +kernel, by decide +kernel⟩, rfl, rfl⟩, tc_6 7 rfl rfl, tc_0 61 rfl rfl, ⟨9, TX9, 40, 9, rfl, rfl⟩⟩

abbrev kX9_cost : MK := (yX9_cost, cX9_cost, 3, (some .long), { frames := 8, cells := 0, slots := 0, locals := 175 })
theorem okX9_cost : OKv kX9_cost 2 := ⟨⟨tc_6 4 rfl rfl, tc_1 10 rfl rfl, ⟨by decide +kernel, by decide +kernel, by decide +kernel⟩, rfl, rfl⟩, tc_6 2 rfl rfl, tc_6 3 rfl rfl, ⟨9, TX9, 40, 9, rfl, rfl⟩⟩

abbrev kX9_findBest : MK := (yX9_findBest, cX9_findBest, 8, none, { frames := 6, cells := 0, slots := 0, locals := 151 })
theorem okX9_findBest : OKv kX9_findBest 1 := ⟨⟨tc_6 24 rfl rfl, tc_1 10 rfl rfl, ⟨by decide +kernel, by decide +kernel, by decide +kernel⟩, rfl, rfl⟩, tc_6 23 rfl rfl, tc_0 64 rfl rfl, ⟨9, TX9, 40, 9, rfl, rfl⟩⟩

abbrev kX9_bestOf : MK := (yX9_bestOf, cX9_bestOf, 3, (some .long), { frames := 7, cells := 0, slots := 0, locals := 178 })
theorem okX9_bestOf : OKv kX9_bestOf 2 := ⟨⟨tc_6 20 rfl rfl, tc_1 10 rfl rfl, ⟨by decide +kernel, by decide +kernel, by decide +kernel⟩, rfl, rfl⟩, tc_6 19 rfl rfl, tc_0 63 rfl rfl, ⟨9, TX9, 40, 9, rfl, rfl⟩⟩

abbrev kX9_best : MK := (yX9_best, cX9_best, 3, (some .long), { frames := 8, cells := 0, slots := 0, locals := 200 })
theorem okX9_best : OKv kX9_best 2 := ⟨⟨tc_6 16 rfl rfl, tc_1 10 rfl rfl, ⟨by decide +kernel, by decide +kernel, by decide +kernel⟩, rfl, rfl⟩, tc_6 14 rfl rfl, tc_6 15 rfl rfl, ⟨9, TX9, 40, 9, rfl, rfl⟩⟩

abbrev kX9_roundGoes : MK := (yX9_roundGoes, cX9_roundGoes, 3, (some .boolean), { frames := 7, cells := 0, slots := 0, locals := 178 })
theorem okX9_roundGoes : OKv kX9_roundGoes 0 := ⟨⟨tc_6 41 rfl rfl, tc_1 10 rfl rfl, ⟨by decide +kernel, by decide +kernel, by decide +kernel⟩, rfl, rfl⟩, tc_6 40 rfl rfl, tc_0 67 rfl rfl, ⟨9, TX9, 40, 9, rfl, rfl⟩⟩

abbrev kX9_rests : MK := (yX9_rests, cX9_rests, 3, (some .int), { frames := 8, cells := 0, slots := 0, locals := 200 })
theorem okX9_rests : OKv kX9_rests 0 := ⟨⟨tc_6 37 rfl rfl, tc_1 10 rfl rfl, ⟨by decide +kernel, by decide +kernel, by decide +kernel⟩, rfl, rfl⟩, tc_6 36 rfl rfl, tc_0 66 rfl rfl, ⟨9, TX9, 40, 9, rfl, rfl⟩⟩

abbrev kX9_restOf : MK := (yX9_restOf, cX9_restOf, 4, (some .int), { frames := 9, cells := 0, slots := 0, locals := 222 })
theorem okX9_restOf : OKv kX9_restOf 2 := ⟨⟨tc_6 33 rfl rfl, tc_1 10 rfl rfl, ⟨by decide +kernel, by decide +kernel, by decide +kernel⟩, rfl, rfl⟩, tc_6 32 rfl rfl, tc_0 65 rfl rfl, ⟨9, TX9, 40, 9, rfl, rfl⟩⟩

abbrev kX9_rest : MK := (yX9_rest, cX9_rest, 4, (some .int), { frames := 10, cells := 0, slots := 0, locals := 245 })
theorem okX9_rest : OKv kX9_rest 2 := ⟨⟨tc_6 29 rfl rfl, tc_1 10 rfl rfl, ⟨by decide +kernel, by decide +kernel, by decide +kernel⟩, rfl, rfl⟩, tc_6 27 rfl rfl, tc_6 28 rfl rfl, ⟨9, TX9, 40, 9, rfl, rfl⟩⟩

abbrev kX9_power : MK := (yX9_power, cX9_power, 4, (some .int), { frames := 0, cells := 0, slots := 0, locals := 0 })
theorem okX9_power : OKs kX9_power 2 := ⟨⟨tc_6 52 rfl rfl, tc_1 10 rfl rfl, ⟨by decide +kernel, by decide +kernel, by decide +kernel⟩, rfl, rfl⟩, tc_6 51 rfl rfl⟩

abbrev kX9_findOrder : MK := (yX9_findOrder, cX9_findOrder, 9, none, { frames := 7, cells := 0, slots := 0, locals := 153 })
theorem okX9_findOrder : OKv kX9_findOrder 1 := ⟨⟨tc_6 49 rfl rfl, tc_1 10 rfl rfl, ⟨by decide +kernel, by decide +kernel, by decide +kernel⟩, rfl, rfl⟩, tc_6 48 rfl rfl, tc_0 68 rfl rfl, ⟨9, TX9, 40, 9, rfl, rfl⟩⟩

abbrev kX9_order : MK := (yX9_order, cX9_order, 3, (some .int), { frames := 8, cells := 0, slots := 0, locals := 181 })
theorem okX9_order : OKv kX9_order 2 := ⟨⟨tc_6 45 rfl rfl, tc_1 10 rfl rfl, ⟨by decide +kernel, by decide +kernel, by decide +kernel⟩, rfl, rfl⟩, tc_6 43 rfl rfl, tc_6 44 rfl rfl, ⟨9, TX9, 40, 9, rfl, rfl⟩⟩

abbrev kX9_amongOf : MK := (yX9_amongOf, cX9_amongOf, 10, (some .int), { frames := 7, cells := 0, slots := 0, locals := 153 })
theorem okX9_amongOf : OKv kX9_amongOf 1 := ⟨⟨tc_6 60 rfl rfl, tc_1 10 rfl rfl, ⟨by decide +kernel, by decide +kernel, by decide +kernel⟩, rfl, rfl⟩, tc_6 59 rfl rfl, tc_0 69 rfl rfl, ⟨9, TX9, 40, 9, rfl, rfl⟩⟩

abbrev kX9_among : MK := (yX9_among, cX9_among, 2, (some .int), { frames := 8, cells := 0, slots := 0, locals := 182 })
theorem okX9_among : OKv kX9_among 1 := ⟨⟨tc_6 56 rfl rfl, tc_1 10 rfl rfl, ⟨by decide +kernel, by decide +kernel, by decide +kernel⟩, rfl, rfl⟩, tc_6 54 rfl rfl, tc_6 55 rfl rfl, ⟨9, TX9, 40, 9, rfl, rfl⟩⟩

abbrev kX9_hire : MK := (yX9_hire, cX9_hire, 6, (some .long), { frames := 7, cells := 0, slots := 0, locals := 153 })
theorem okX9_hire : OKv kX9_hire 3 := ⟨⟨tc_6 64 rfl rfl, tc_1 10 rfl rfl, ⟨by decide +kernel, by decide +kernel, by decide +kernel⟩, rfl, rfl⟩, tc_6 62 rfl rfl, tc_6 63 rfl rfl, ⟨9, TX9, 40, 9, rfl, rfl⟩⟩

abbrev kX9_other : MK := (yX9_other, cX9_other, 5, (some .long), { frames := 7, cells := 0, slots := 0, locals := 153 })
theorem okX9_other : OKv kX9_other 4 := ⟨⟨tc_6 69 rfl rfl, tc_1 10 rfl rfl, ⟨by decide +kernel, by decide +kernel, by decide +kernel⟩, rfl, rfl⟩, tc_6 67 rfl rfl, tc_6 68 rfl rfl, ⟨9, TX9, 40, 9, rfl, rfl⟩⟩

abbrev kX9_lawForOf : MK := (yX9_lawForOf, cX9_lawForOf, 8, (some .int), { frames := 7, cells := 0, slots := 0, locals := 153 })
theorem okX9_lawForOf : OKv kX9_lawForOf 1 := ⟨⟨tc_6 77 rfl rfl, tc_1 10 rfl rfl, ⟨by decide +kernel, by decide +kernel, by decide +kernel⟩, rfl, rfl⟩, tc_6 76 rfl rfl, tc_0 70 rfl rfl, ⟨9, TX9, 40, 9, rfl, rfl⟩⟩

abbrev kX9_lawFor : MK := (yX9_lawFor, cX9_lawFor, 2, (some .int), { frames := 8, cells := 0, slots := 0, locals := 180 })
theorem okX9_lawFor : OKv kX9_lawFor 1 := ⟨⟨tc_6 73 rfl rfl, tc_1 10 rfl rfl, ⟨by decide +kernel, by decide +kernel, by decide +kernel⟩, rfl, rfl⟩, tc_6 71 rfl rfl, tc_6 72 rfl rfl, ⟨9, TX9, 40, 9, rfl, rfl⟩⟩

abbrev kX9_edgeOf : MK := (yX9_edgeOf, cX9_edgeOf, 5, (some .int), { frames := 7, cells := 0, slots := 0, locals := 153 })
theorem okX9_edgeOf : OKv kX9_edgeOf 1 := ⟨⟨tc_6 85 rfl rfl, tc_1 10 rfl rfl, ⟨by decide +kernel, by decide +kernel, by decide +kernel⟩, rfl, rfl⟩, tc_6 84 rfl rfl, tc_0 71 rfl rfl, ⟨9, TX9, 40, 9, rfl, rfl⟩⟩

abbrev kX9_edge : MK := (yX9_edge, cX9_edge, 2, (some .int), { frames := 8, cells := 0, slots := 0, locals := 177 })
theorem okX9_edge : OKv kX9_edge 1 := ⟨⟨tc_6 81 rfl rfl, tc_1 10 rfl rfl, ⟨by decide +kernel, by decide +kernel, by decide +kernel⟩, rfl, rfl⟩, tc_6 79 rfl rfl, tc_6 80 rfl rfl, ⟨9, TX9, 40, 9, rfl, rfl⟩⟩

abbrev kX9_weight : MK := (yX9_weight, cX9_weight, 4, (some .int), { frames := 1, cells := 0, slots := 0, locals := 25 })
theorem okX9_weight : OKv kX9_weight 2 := ⟨⟨tc_6 89 rfl rfl, tc_1 10 rfl rfl, ⟨by decide +kernel, by decide +kernel, by decide +kernel⟩, rfl, rfl⟩, tc_6 87 rfl rfl, tc_6 88 rfl rfl, ⟨9, TX9, 40, 9, rfl, rfl⟩⟩

abbrev kX9_allWeights : MK := (yX9_allWeights, cX9_allWeights, 3, (some .int), { frames := 0, cells := 0, slots := 0, locals := 0 })
theorem okX9_allWeights : OKv kX9_allWeights 0 := ⟨⟨tc_6 101 rfl rfl, tc_1 10 rfl rfl, ⟨by decide +kernel, by decide +kernel, by decide +kernel⟩, rfl, rfl⟩, tc_6 100 rfl rfl, tc_0 73 rfl rfl, ⟨9, TX9, 40, 9, rfl, rfl⟩⟩

abbrev kX9_earlyOf : MK := (yX9_earlyOf, cX9_earlyOf, 7, (some .long), { frames := 7, cells := 0, slots := 0, locals := 153 })
theorem okX9_earlyOf : OKv kX9_earlyOf 2 := ⟨⟨tc_6 97 rfl rfl, tc_1 10 rfl rfl, ⟨by decide +kernel, by decide +kernel, by decide +kernel⟩, rfl, rfl⟩, tc_6 96 rfl rfl, tc_0 72 rfl rfl, ⟨9, TX9, 40, 9, rfl, rfl⟩⟩

abbrev kX9_early : MK := (yX9_early, cX9_early, 3, (some .long), { frames := 8, cells := 0, slots := 0, locals := 179 })
theorem okX9_early : OKv kX9_early 2 := ⟨⟨tc_6 93 rfl rfl, tc_1 10 rfl rfl, ⟨by decide +kernel, by decide +kernel, by decide +kernel⟩, rfl, rfl⟩, tc_6 91 rfl rfl, tc_6 92 rfl rfl, ⟨9, TX9, 40, 9, rfl, rfl⟩⟩

abbrev kX9_twoOf : MK := (yX9_twoOf, cX9_twoOf, 6, (some .long), { frames := 7, cells := 0, slots := 0, locals := 153 })
theorem okX9_twoOf : OKv kX9_twoOf 1 := ⟨⟨tc_6 109 rfl rfl, tc_1 10 rfl rfl, ⟨by decide +kernel, by decide +kernel, by decide +kernel⟩, rfl, rfl⟩, tc_6 108 rfl rfl, tc_0 74 rfl rfl, ⟨9, TX9, 40, 9, rfl, rfl⟩⟩

abbrev kX9_two : MK := (yX9_two, cX9_two, 2, (some .long), { frames := 8, cells := 0, slots := 0, locals := 178 })
theorem okX9_two : OKv kX9_two 1 := ⟨⟨tc_6 105 rfl rfl, tc_1 10 rfl rfl, ⟨by decide +kernel, by decide +kernel, by decide +kernel⟩, rfl, rfl⟩, tc_6 103 rfl rfl, tc_6 104 rfl rfl, ⟨9, TX9, 40, 9, rfl, rfl⟩⟩

abbrev kX9_lot : MK := (yX9_lot, cX9_lot, 2, (some .int), { frames := 0, cells := 0, slots := 0, locals := 0 })
theorem okX9_lot : OKv kX9_lot 1 := ⟨⟨tc_6 121 rfl rfl, tc_1 10 rfl rfl, ⟨by decide +kernel, by decide +kernel, by decide +kernel⟩, rfl, rfl⟩, tc_6 120 rfl rfl, tc_0 76 rfl rfl, ⟨9, TX9, 40, 9, rfl, rfl⟩⟩

abbrev kX9_evening : MK := (yX9_evening, cX9_evening, 10, (some .int), { frames := 2, cells := 0, slots := 0, locals := 47 })
theorem okX9_evening : OKv kX9_evening 0 := ⟨⟨tc_6 117 rfl rfl, tc_1 10 rfl rfl, ⟨by decide +kernel, by decide +kernel, by decide +kernel⟩, rfl, rfl⟩, tc_6 116 rfl rfl, tc_0 75 rfl rfl, ⟨9, TX9, 40, 9, rfl, rfl⟩⟩

abbrev kX9_made : MK := (yX9_made, cX9_made, 2, (some .int), { frames := 7, cells := 0, slots := 0, locals := 153 })
theorem okX9_made : OKv kX9_made 1 := ⟨⟨tc_6 113 rfl rfl, tc_1 10 rfl rfl, ⟨by decide +kernel, by decide +kernel, by decide +kernel⟩, rfl, rfl⟩, tc_6 111 rfl rfl, tc_6 112 rfl rfl, ⟨9, TX9, 40, 9, rfl, rfl⟩⟩

abbrev kX9_eveningsOf : MK := (yX9_eveningsOf, cX9_eveningsOf, 6, (some .int), { frames := 7, cells := 0, slots := 0, locals := 153 })
theorem okX9_eveningsOf : OKv kX9_eveningsOf 3 := ⟨⟨tc_6 131 rfl rfl, tc_1 10 rfl rfl, ⟨by decide +kernel, by decide +kernel, by decide +kernel⟩, rfl, rfl⟩, tc_6 130 rfl rfl, tc_0 77 rfl rfl, ⟨9, TX9, 40, 9, rfl, rfl⟩⟩

abbrev kX9_evenings : MK := (yX9_evenings, cX9_evenings, 4, (some .int), { frames := 8, cells := 0, slots := 0, locals := 178 })
theorem okX9_evenings : OKv kX9_evenings 3 := ⟨⟨tc_6 126 rfl rfl, tc_1 10 rfl rfl, ⟨by decide +kernel, by decide +kernel, by decide +kernel⟩, rfl, rfl⟩, tc_6 124 rfl rfl, tc_6 125 rfl rfl, ⟨9, TX9, 40, 9, rfl, rfl⟩⟩

abbrev kX9_saw : MK := (yX9_saw, cX9_saw, 6, (some .int), { frames := 2, cells := 0, slots := 0, locals := 45 })
theorem okX9_saw : OKv kX9_saw 5 := ⟨⟨tc_6 135 rfl rfl, tc_1 10 rfl rfl, ⟨by decide +kernel, by decide +kernel, by decide +kernel⟩, rfl, rfl⟩, tc_6 133 rfl rfl, tc_6 134 rfl rfl, ⟨9, TX9, 40, 9, rfl, rfl⟩⟩

abbrev kX9_read : MK := (yX9_read, cX9_read, 6, (some .int), { frames := 3, cells := 0, slots := 0, locals := 70 })
theorem okX9_read : OKv kX9_read 2 := ⟨⟨tc_6 139 rfl rfl, tc_1 10 rfl rfl, ⟨by decide +kernel, by decide +kernel, by decide +kernel⟩, rfl, rfl⟩, tc_6 137 rfl rfl, tc_6 138 rfl rfl, ⟨9, TX9, 40, 9, rfl, rfl⟩⟩

abbrev kX9_isTicklish : MK := (yX9_isTicklish, cX9_isTicklish, 1, (some .boolean), { frames := 1, cells := 0, slots := 0, locals := 25 })
theorem okX9_isTicklish : OKs kX9_isTicklish 1 := ⟨⟨tc_6 147 rfl rfl, tc_1 10 rfl rfl, ⟨by decide +kernel, by decide +kernel, by decide +kernel⟩, rfl, rfl⟩, tc_6 146 rfl rfl⟩

abbrev kX9_offOf : MK := (yX9_offOf, cX9_offOf, 6, (some .int), { frames := 1, cells := 0, slots := 0, locals := 24 })
theorem okX9_offOf : OKv kX9_offOf 2 := ⟨⟨tc_6 151 rfl rfl, tc_1 10 rfl rfl, ⟨by decide +kernel, by decide +kernel, by decide +kernel⟩, rfl, rfl⟩, tc_6 150 rfl rfl, tc_0 78 rfl rfl, ⟨9, TX9, 40, 9, rfl, rfl⟩⟩

abbrev kX9_off : MK := (yX9_off, cX9_off, 3, (some .int), { frames := 2, cells := 0, slots := 0, locals := 49 })
theorem okX9_off : OKv kX9_off 2 := ⟨⟨tc_6 144 rfl rfl, tc_1 10 rfl rfl, ⟨by decide +kernel, by decide +kernel, by decide +kernel⟩, rfl, rfl⟩, tc_6 142 rfl rfl, tc_6 143 rfl rfl, ⟨9, TX9, 40, 9, rfl, rfl⟩⟩

abbrev kX9_guessOf : MK := (yX9_guessOf, cX9_guessOf, 5, (some .int), { frames := 2, cells := 0, slots := 0, locals := 49 })
theorem okX9_guessOf : OKv kX9_guessOf 1 := ⟨⟨tc_6 159 rfl rfl, tc_1 10 rfl rfl, ⟨by decide +kernel, by decide +kernel, by decide +kernel⟩, rfl, rfl⟩, tc_6 158 rfl rfl, tc_0 79 rfl rfl, ⟨9, TX9, 40, 9, rfl, rfl⟩⟩

abbrev kX9_guess : MK := (yX9_guess, cX9_guess, 2, (some .int), { frames := 3, cells := 0, slots := 0, locals := 73 })
theorem okX9_guess : OKv kX9_guess 1 := ⟨⟨tc_6 155 rfl rfl, tc_1 10 rfl rfl, ⟨by decide +kernel, by decide +kernel, by decide +kernel⟩, rfl, rfl⟩, tc_6 153 rfl rfl, tc_6 154 rfl rfl, ⟨9, TX9, 40, 9, rfl, rfl⟩⟩

abbrev kX9_laughs : MK := (yX9_laughs, cX9_laughs, 6, (some .int), { frames := 2, cells := 0, slots := 0, locals := 45 })
theorem okX9_laughs : OKv kX9_laughs 3 := ⟨⟨tc_6 163 rfl rfl, tc_1 10 rfl rfl, ⟨by decide +kernel, by decide +kernel, by decide +kernel⟩, rfl, rfl⟩, tc_6 161 rfl rfl, tc_6 162 rfl rfl, ⟨9, TX9, 40, 9, rfl, rfl⟩⟩

abbrev kX9_write : MK := (yX9_write, cX9_write, 5, (some .int), { frames := 7, cells := 0, slots := 0, locals := 153 })
theorem okX9_write : OKv kX9_write 2 := ⟨⟨tc_6 167 rfl rfl, tc_1 10 rfl rfl, ⟨by decide +kernel, by decide +kernel, by decide +kernel⟩, rfl, rfl⟩, tc_6 165 rfl rfl, tc_6 166 rfl rfl, ⟨9, TX9, 40, 9, rfl, rfl⟩⟩

abbrev kX9_count : MK := (yX9_count, cX9_count, 4, (some .int), { frames := 5, cells := 0, slots := 0, locals := 111 })
theorem okX9_count : OKv kX9_count 1 := ⟨⟨tc_6 171 rfl rfl, tc_1 10 rfl rfl, ⟨by decide +kernel, by decide +kernel, by decide +kernel⟩, rfl, rfl⟩, tc_6 169 rfl rfl, tc_6 170 rfl rfl, ⟨9, TX9, 40, 9, rfl, rfl⟩⟩

abbrev kX9_digest : MK := (yX9_digest, cX9_digest, 6, (some .long), { frames := 9, cells := 0, slots := 0, locals := 222 })
theorem okX9_digest : OKv kX9_digest 0 := ⟨⟨tc_6 175 rfl rfl, tc_1 10 rfl rfl, ⟨by decide +kernel, by decide +kernel, by decide +kernel⟩, rfl, rfl⟩, tc_6 173 rfl rfl, tc_6 174 rfl rfl, ⟨9, TX9, 40, 9, rfl, rfl⟩⟩

abbrev kJ6_bitCount_0f7a4 : MK := (yJ6_bitCount_0f7a4, cJ6_bitCount_0f7a4, 1, (some .int), { frames := 0, cells := 0, slots := 0, locals := 0 })
theorem okJ6_bitCount_0f7a4 : OKs kJ6_bitCount_0f7a4 1 := ⟨⟨tc_2 230 rfl rfl, tc_1 12 rfl rfl, ⟨by decide +kernel, by decide +kernel, by decide +kernel⟩, rfl, rfl⟩, tc_2 229 rfl rfl⟩

theorem lnL_13 : Cond.methodLink RL 13 yX8_type ∈ tblG := tc_2 83 rfl rfl
theorem lnX8_81 : Cond.methodLink RX8 81 yX8_within ∈ tblG := tc_2 87 rfl rfl
theorem lnX8_85 : Cond.methodLink RX8 85 yX3_append ∈ tblG := tc_2 90 rfl rfl
theorem lnX3_31 : Cond.methodLink RX3 31 yX3_interpret ∈ tblG := tc_2 94 rfl rfl
theorem lnX3_40 : Cond.methodLink RX3 40 yX3_forget ∈ tblG := tc_2 98 rfl rfl
theorem lnX3_43 : Cond.methodLink RX3 43 yX3_readParts ∈ tblG := tc_2 102 rfl rfl
theorem lnX3_50 : Cond.methodLink RX3 50 yX3_readPart ∈ tblG := tc_2 106 rfl rfl
theorem lnX3_53 : Cond.methodLink RX3 53 yX3_sign ∈ tblG := tc_2 110 rfl rfl
theorem lnX3_57 : Cond.methodLink RX3 57 yX3_readPerson ∈ tblG := tc_2 114 rfl rfl
theorem lnX3_67 : Cond.methodLink RX3 67 yX3_isFigure ∈ tblG := tc_2 118 rfl rfl
theorem lnX3_60 : Cond.methodLink RX3 60 yX3_readTale ∈ tblG := tc_2 123 rfl rfl
theorem lnX3_63 : Cond.methodLink RX3 63 yX3_readRule ∈ tblG := tc_2 127 rfl rfl
theorem lnL_18 : Cond.methodLink RL 18 yX8_wipe ∈ tblG := tc_2 131 rfl rfl
theorem lnX8_93 : Cond.methodLink RX8 93 yX3_empty ∈ tblG := tc_2 135 rfl rfl
theorem lnL_23 : Cond.methodLink RL 23 yX8_fault ∈ tblG := tc_2 139 rfl rfl
theorem lnL_27 : Cond.methodLink RL 27 yX8_person ∈ tblG := tc_2 143 rfl rfl
theorem lnX8_99 : Cond.methodLink RX8 99 yX8_isPerson ∈ tblG := tc_2 147 rfl rfl
theorem lnL_32 : Cond.methodLink RL 32 yX8_tale ∈ tblG := tc_2 151 rfl rfl
theorem lnX8_105 : Cond.methodLink RX8 105 yX8_isTale ∈ tblG := tc_2 155 rfl rfl
theorem lnL_36 : Cond.methodLink RL 36 yX8_law ∈ tblG := tc_2 159 rfl rfl
theorem lnL_40 : Cond.methodLink RL 40 yX8_holds ∈ tblG := tc_2 163 rfl rfl
theorem lnL_44 : Cond.methodLink RL 44 yX8_leaves ∈ tblG := tc_2 167 rfl rfl
theorem lnL_48 : Cond.methodLink RL 48 yX8_quarters ∈ tblG := tc_2 171 rfl rfl
theorem lnX8_114 : Cond.methodLink RX8 114 yX1_gather ∈ tblG := tc_2 175 rfl rfl
theorem lnX1_61 : Cond.methodLink RX1 61 arraycopyName ∈ tblG := tc_2 179 rfl rfl
theorem lnX8_117 : Cond.methodLink RX8 117 yX1_quartersAt ∈ tblG := tc_2 182 rfl rfl
theorem lnX1_68 : Cond.methodLink RX1 68 yX1_isThere ∈ tblG := tc_2 186 rfl rfl
theorem lnL_52 : Cond.methodLink RL 52 yX8_owes ∈ tblG := tc_2 196 rfl rfl
theorem lnX8_124 : Cond.methodLink RX8 124 yX8_isPart ∈ tblG := tc_2 200 rfl rfl
theorem lnX8_127 : Cond.methodLink RX8 127 yX8_asLong ∈ tblG := tc_2 203 rfl rfl
theorem lnX8_131 : Cond.methodLink RX8 131 yX0_play ∈ tblG := tc_2 207 rfl rfl
theorem lnX0_61 : Cond.methodLink RX0 61 yX0_begin ∈ tblG := tc_2 211 rfl rfl
theorem lnX0_64 : Cond.methodLink RX0 64 yX0_split ∈ tblG := tc_2 215 rfl rfl
theorem lnX0_94 : Cond.methodLink RX0 94 yX1_quartersAt ∈ tblG := tc_2 219 rfl rfl
theorem lnX0_68 : Cond.methodLink RX0 68 yX0_spread ∈ tblG := tc_2 220 rfl rfl
theorem lnX0_98 : Cond.methodLink RX0 98 yX0_passOn ∈ tblG := tc_2 224 rfl rfl
theorem lnX0_102 : Cond.methodLink RX0 102 yJ6_bitCount_0f7a4 ∈ tblG := tc_2 228 rfl rfl
theorem lnX0_71 : Cond.methodLink RX0 71 yX0_step ∈ tblG := tc_2 236 rfl rfl
theorem lnX0_119 : Cond.methodLink RX0 119 yX0_stepOnce ∈ tblG := tc_3 0 rfl rfl
theorem lnX0_122 : Cond.methodLink RX0 122 yX0_stepOn ∈ tblG := tc_3 6 rfl rfl
theorem lnX0_125 : Cond.methodLink RX0 125 yX0_halve ∈ tblG := tc_3 10 rfl rfl
theorem lnX0_75 : Cond.methodLink RX0 75 yX0_finish ∈ tblG := tc_3 15 rfl rfl
theorem lnX8_134 : Cond.methodLink RX8 134 yX8_shareOwed ∈ tblG := tc_3 19 rfl rfl
theorem lnX8_209 : Cond.methodLink RX8 209 yX0_owedInParts ∈ tblG := tc_3 23 rfl rfl
theorem lnX8_213 : Cond.methodLink RX8 213 yX0_owedWhole ∈ tblG := tc_3 27 rfl rfl
theorem lnX8_217 : Cond.methodLink RX8 217 yX6_put ∈ tblG := tc_3 31 rfl rfl
theorem lnX6_13 : Cond.methodLink RX6 13 Lib.MathLoose.abs_long.x ∈ tblG := tc_3 35 rfl rfl
theorem lnX6_19 : Cond.methodLink RX6 19 yX6_commonDivisor ∈ tblG := tc_3 38 rfl rfl
theorem lnX8_138 : Cond.methodLink RX8 138 yX6_part ∈ tblG := tc_3 41 rfl rfl
theorem lnL_57 : Cond.methodLink RL 57 yX8_amount ∈ tblG := tc_3 45 rfl rfl
theorem lnX8_141 : Cond.methodLink RX8 141 yX8_shareOfDebt ∈ tblG := tc_3 49 rfl rfl
theorem lnX8_350 : Cond.methodLink RX8 350 yX0_costWhole ∈ tblG := tc_3 53 rfl rfl
theorem lnL_62 : Cond.methodLink RL 62 yX8_cost ∈ tblG := tc_3 59 rfl rfl
theorem lnX8_145 : Cond.methodLink RX8 145 yX0_costOf ∈ tblG := tc_3 63 rfl rfl
theorem lnX0_47 : Cond.methodLink RX0 47 yX1_feesOf ∈ tblG := tc_3 67 rfl rfl
theorem lnX0_51 : Cond.methodLink RX0 51 yX0_costWhole ∈ tblG := tc_3 71 rfl rfl
theorem lnX8_148 : Cond.methodLink RX8 148 yX8_shareOfCost ∈ tblG := tc_3 72 rfl rfl
theorem lnL_66 : Cond.methodLink RL 66 yX8_best ∈ tblG := tc_3 76 rfl rfl
theorem lnX8_152 : Cond.methodLink RX8 152 yX4_findBest ∈ tblG := tc_3 80 rfl rfl
theorem lnX4_35 : Cond.methodLink RX4 35 yX1_gather ∈ tblG := tc_3 84 rfl rfl
theorem lnX4_40 : Cond.methodLink RX4 40 yX4_compareWays ∈ tblG := tc_3 85 rfl rfl
theorem lnX4_50 : Cond.methodLink RX4 50 yX0_weighChoices ∈ tblG := tc_3 89 rfl rfl
theorem lnX4_61 : Cond.methodLink RX4 61 yX4_compareHolds ∈ tblG := tc_3 94 rfl rfl
theorem lnX4_69 : Cond.methodLink RX4 69 Lib.Math.min.name ∈ tblG := tc_3 98 rfl rfl
theorem lnX4_75 : Cond.methodLink RX4 75 yX0_replay ∈ tblG := tc_3 101 rfl rfl
theorem lnX0_88 : Cond.methodLink RX0 88 yX1_isThere ∈ tblG := tc_3 105 rfl rfl
theorem lnX4_78 : Cond.methodLink RX4 78 yX0_costOf ∈ tblG := tc_3 106 rfl rfl
theorem lnL_70 : Cond.methodLink RL 70 yX8_rest ∈ tblG := tc_3 107 rfl rfl
theorem lnX8_166 : Cond.methodLink RX8 166 yX4_settle ∈ tblG := tc_3 111 rfl rfl
theorem lnX4_91 : Cond.methodLink RX4 91 yX4_roundChanges ∈ tblG := tc_3 115 rfl rfl
theorem lnX4_104 : Cond.methodLink RX4 104 yX0_play ∈ tblG := tc_3 119 rfl rfl
theorem lnX4_95 : Cond.methodLink RX4 95 arraycopyName ∈ tblG := tc_3 120 rfl rfl
theorem lnX8_169 : Cond.methodLink RX8 169 yX8_restTold ∈ tblG := tc_3 121 rfl rfl
theorem lnL_74 : Cond.methodLink RL 74 yX8_order ∈ tblG := tc_3 125 rfl rfl
theorem lnX8_172 : Cond.methodLink RX8 172 yX4_findOrder ∈ tblG := tc_3 129 rfl rfl
theorem lnX4_110 : Cond.methodLink RX4 110 yX4_setRow ∈ tblG := tc_3 133 rfl rfl
theorem lnL_78 : Cond.methodLink RL 78 yX8_among ∈ tblG := tc_3 138 rfl rfl
theorem lnX8_178 : Cond.methodLink RX8 178 yX4_bestCompany ∈ tblG := tc_3 142 rfl rfl
theorem lnL_82 : Cond.methodLink RL 82 yX8_hire ∈ tblG := tc_3 146 rfl rfl
theorem lnX8_185 : Cond.methodLink RX8 185 yX1_seatOneMore ∈ tblG := tc_3 150 rfl rfl
theorem lnL_86 : Cond.methodLink RL 86 yX8_other ∈ tblG := tc_3 154 rfl rfl
theorem lnL_91 : Cond.methodLink RL 91 yX8_lawFor ∈ tblG := tc_3 158 rfl rfl
theorem lnX8_194 : Cond.methodLink RX8 194 yX4_bestLaw ∈ tblG := tc_3 162 rfl rfl
theorem lnL_95 : Cond.methodLink RL 95 yX8_edge ∈ tblG := tc_3 166 rfl rfl
theorem lnX8_197 : Cond.methodLink RX8 197 yX4_leastFunnyToLeave ∈ tblG := tc_3 170 rfl rfl
theorem lnL_99 : Cond.methodLink RL 99 yX8_weight ∈ tblG := tc_3 174 rfl rfl
theorem lnL_103 : Cond.methodLink RL 103 yX8_early ∈ tblG := tc_3 178 rfl rfl
theorem lnX8_200 : Cond.methodLink RX8 200 yX8_totalWeight ∈ tblG := tc_3 182 rfl rfl
theorem lnX8_204 : Cond.methodLink RX8 204 Lib.Math.min.name ∈ tblG := tc_3 186 rfl rfl
theorem lnL_107 : Cond.methodLink RL 107 yX8_two ∈ tblG := tc_3 187 rfl rfl
theorem lnX8_221 : Cond.methodLink RX8 221 yX0_owedFrom ∈ tblG := tc_3 191 rfl rfl
theorem lnX0_58 : Cond.methodLink RX0 58 yX0_play ∈ tblG := tc_3 195 rfl rfl
theorem lnL_112 : Cond.methodLink RL 112 yX8_made ∈ tblG := tc_3 196 rfl rfl
theorem lnX8_227 : Cond.methodLink RX8 227 yX2_endOfEvening ∈ tblG := tc_3 200 rfl rfl
theorem lnX2_21 : Cond.methodLink RX2 21 yX2_laughing ∈ tblG := tc_3 204 rfl rfl
theorem lnX2_37 : Cond.methodLink RX2 37 yX1_isThere ∈ tblG := tc_3 208 rfl rfl
theorem lnX2_41 : Cond.methodLink RX2 41 yX2_draw ∈ tblG := tc_3 209 rfl rfl
theorem lnX2_45 : Cond.methodLink RX2 45 yX1_quartersAt ∈ tblG := tc_3 214 rfl rfl
theorem lnX2_27 : Cond.methodLink RX2 27 yX2_takerOf ∈ tblG := tc_3 215 rfl rfl
theorem lnX2_48 : Cond.methodLink RX2 48 yJ6_bitCount_0f7a4 ∈ tblG := tc_3 219 rfl rfl
theorem lnL_116 : Cond.methodLink RL 116 yX8_evenings ∈ tblG := tc_3 221 rfl rfl
theorem lnL_121 : Cond.methodLink RL 121 yX8_saw ∈ tblG := tc_3 225 rfl rfl
theorem lnX8_231 : Cond.methodLink RX8 231 yX8_mayBeSeen ∈ tblG := tc_3 229 rfl rfl
theorem lnX8_235 : Cond.methodLink RX8 235 yX5_add ∈ tblG := tc_3 232 rfl rfl
theorem lnL_126 : Cond.methodLink RL 126 yX8_read ∈ tblG := tc_3 236 rfl rfl
theorem lnX8_242 : Cond.methodLink RX8 242 yX8_isSheet ∈ tblG := tc_4 0 rfl rfl
theorem lnX8_245 : Cond.methodLink RX8 245 yX7_isLost ∈ tblG := tc_4 3 rfl rfl
theorem lnX8_248 : Cond.methodLink RX8 248 yX7_find ∈ tblG := tc_4 7 rfl rfl
theorem lnX8_254 : Cond.methodLink RX8 254 yX7_item ∈ tblG := tc_4 11 rfl rfl
theorem lnL_130 : Cond.methodLink RL 130 yX8_off ∈ tblG := tc_4 15 rfl rfl
theorem lnX8_257 : Cond.methodLink RX8 257 yX5_offBy ∈ tblG := tc_4 19 rfl rfl
theorem lnL_134 : Cond.methodLink RL 134 yX8_guess ∈ tblG := tc_4 24 rfl rfl
theorem lnX8_260 : Cond.methodLink RX8 260 yX5_likeliest ∈ tblG := tc_4 28 rfl rfl
theorem lnX5_35 : Cond.methodLink RX5 35 yX5_wasSeen ∈ tblG := tc_4 32 rfl rfl
theorem lnX5_40 : Cond.methodLink RX5 40 yX5_offBy ∈ tblG := tc_4 37 rfl rfl
theorem lnL_138 : Cond.methodLink RL 138 yX8_laughs ∈ tblG := tc_4 38 rfl rfl
theorem lnX8_263 : Cond.methodLink RX8 263 yX5_howMany ∈ tblG := tc_4 42 rfl rfl
theorem lnL_142 : Cond.methodLink RL 142 yX8_sheet ∈ tblG := tc_4 46 rfl rfl
theorem lnX8_267 : Cond.methodLink RX8 267 yX8_isForm ∈ tblG := tc_4 50 rfl rfl
theorem lnX8_270 : Cond.methodLink RX8 270 yX7_renew ∈ tblG := tc_4 53 rfl rfl
theorem lnL_146 : Cond.methodLink RL 146 yX8_lose ∈ tblG := tc_4 57 rfl rfl
theorem lnX8_274 : Cond.methodLink RX8 274 yX7_drop ∈ tblG := tc_4 61 rfl rfl
theorem lnL_150 : Cond.methodLink RL 150 yX8_lay ∈ tblG := tc_4 65 rfl rfl
theorem lnX8_277 : Cond.methodLink RX8 277 yX7_lookUp ∈ tblG := tc_4 69 rfl rfl
theorem lnX7_25 : Cond.methodLink RX7 25 yX7_isLost ∈ tblG := tc_4 73 rfl rfl
theorem lnX8_281 : Cond.methodLink RX8 281 yX7_put ∈ tblG := tc_4 74 rfl rfl
theorem lnX7_29 : Cond.methodLink RX7 29 yX7_cut ∈ tblG := tc_4 78 rfl rfl
theorem lnL_155 : Cond.methodLink RL 155 yX8_get ∈ tblG := tc_4 81 rfl rfl
theorem lnL_159 : Cond.methodLink RL 159 yX8_copy ∈ tblG := tc_4 86 rfl rfl
theorem lnX8_287 : Cond.methodLink RX8 287 yX7_hasItems ∈ tblG := tc_4 90 rfl rfl
theorem lnX8_290 : Cond.methodLink RX8 290 yX7_move ∈ tblG := tc_4 94 rfl rfl
theorem lnX7_33 : Cond.methodLink RX7 33 arraycopyName ∈ tblG := tc_4 98 rfl rfl
theorem lnL_163 : Cond.methodLink RL 163 yX8_write ∈ tblG := tc_4 99 rfl rfl
theorem lnL_167 : Cond.methodLink RL 167 yX8_count ∈ tblG := tc_4 103 rfl rfl
theorem lnX8_294 : Cond.methodLink RX8 294 yX3_funnyTogether ∈ tblG := tc_4 107 rfl rfl
theorem lnX8_297 : Cond.methodLink RX8 297 yX5_laughedTogether ∈ tblG := tc_4 111 rfl rfl
theorem lnX8_300 : Cond.methodLink RX8 300 yX3_worthTogether ∈ tblG := tc_4 115 rfl rfl
theorem lnL_171 : Cond.methodLink RL 171 yX8_digest ∈ tblG := tc_4 119 rfl rfl
theorem lnX8_310 : Cond.methodLink RX8 310 yX8_count ∈ tblG := tc_4 125 rfl rfl
theorem lnX8_313 : Cond.methodLink RX8 313 yX8_fault ∈ tblG := tc_4 126 rfl rfl
theorem lnX8_316 : Cond.methodLink RX8 316 yX8_law ∈ tblG := tc_4 127 rfl rfl
theorem lnX8_318 : Cond.methodLink RX8 318 yX8_digestOfWhoOwes ∈ tblG := tc_4 128 rfl rfl
theorem lnX8_331 : Cond.methodLink RX8 331 yX6_mixedInto ∈ tblG := tc_4 132 rfl rfl
theorem lnX8_322 : Cond.methodLink RX8 322 yX8_digestOfSearches ∈ tblG := tc_4 137 rfl rfl
theorem lnX8_325 : Cond.methodLink RX8 325 yX8_digestOfStrokes ∈ tblG := tc_4 141 rfl rfl
theorem lnX8_335 : Cond.methodLink RX8 335 yX8_early ∈ tblG := tc_4 145 rfl rfl
theorem lnX8_338 : Cond.methodLink RX8 338 yX8_evenings ∈ tblG := tc_4 146 rfl rfl
theorem lnX8_341 : Cond.methodLink RX8 341 yX8_guess ∈ tblG := tc_4 147 rfl rfl
theorem lnX8_328 : Cond.methodLink RX8 328 yX8_two ∈ tblG := tc_4 148 rfl rfl
theorem lnL_145 : Cond.methodLink RL 145 yX9_sheet ∈ tblG := tc_5 37 rfl rfl
theorem lnX9_99 : Cond.methodLink RX9 99 yX9_isSheet ∈ tblG := tc_5 41 rfl rfl
theorem lnX9_89 : Cond.methodLink RX9 89 yX9_in ∈ tblG := tc_5 45 rfl rfl
theorem lnX9_105 : Cond.methodLink RX9 105 yX9_met ∈ tblG := tc_5 49 rfl rfl
theorem lnL_149 : Cond.methodLink RL 149 yX9_lose ∈ tblG := tc_5 53 rfl rfl
theorem lnL_154 : Cond.methodLink RL 154 yX9_lay ∈ tblG := tc_5 57 rfl rfl
theorem lnX9_109 : Cond.methodLink RX9 109 yX9_lacks ∈ tblG := tc_5 61 rfl rfl
theorem lnX9_113 : Cond.methodLink RX9 113 yX9_cut ∈ tblG := tc_5 65 rfl rfl
theorem lnL_158 : Cond.methodLink RL 158 yX9_get ∈ tblG := tc_5 68 rfl rfl
theorem lnL_162 : Cond.methodLink RL 162 yX9_copy ∈ tblG := tc_5 73 rfl rfl
theorem lnL_17 : Cond.methodLink RL 17 yX9_type ∈ tblG := tc_5 77 rfl rfl
theorem lnL_22 : Cond.methodLink RL 22 yX9_wipe ∈ tblG := tc_5 82 rfl rfl
theorem lnL_26 : Cond.methodLink RL 26 yX9_fault ∈ tblG := tc_5 86 rfl rfl
theorem lnX9_155 : Cond.methodLink RX9 155 yX9_reads ∈ tblG := tc_5 90 rfl rfl
theorem lnX9_149 : Cond.methodLink RX9 149 yX9_clears ∈ tblG := tc_5 94 rfl rfl
theorem lnX9_152 : Cond.methodLink RX9 152 yX9_readsPart ∈ tblG := tc_5 98 rfl rfl
theorem lnX9_132 : Cond.methodLink RX9 132 yX9_here ∈ tblG := tc_5 102 rfl rfl
theorem lnX9_139 : Cond.methodLink RX9 139 yX9_readsPerson ∈ tblG := tc_5 106 rfl rfl
theorem lnX9_136 : Cond.methodLink RX9 136 yX9_figure ∈ tblG := tc_5 110 rfl rfl
theorem lnX9_143 : Cond.methodLink RX9 143 yX9_readsTale ∈ tblG := tc_5 114 rfl rfl
theorem lnX9_146 : Cond.methodLink RX9 146 yX9_readsLaw ∈ tblG := tc_5 118 rfl rfl
theorem lnL_31 : Cond.methodLink RL 31 yX9_person ∈ tblG := tc_5 122 rfl rfl
theorem lnX9_158 : Cond.methodLink RX9 158 yX9_isPerson ∈ tblG := tc_5 126 rfl rfl
theorem lnL_35 : Cond.methodLink RL 35 yX9_tale ∈ tblG := tc_5 130 rfl rfl
theorem lnL_39 : Cond.methodLink RL 39 yX9_law ∈ tblG := tc_5 134 rfl rfl
theorem lnX9_161 : Cond.methodLink RX9 161 yX9_lawNow ∈ tblG := tc_5 138 rfl rfl
theorem lnL_43 : Cond.methodLink RL 43 yX9_holds ∈ tblG := tc_5 142 rfl rfl
theorem lnX9_164 : Cond.methodLink RX9 164 yX9_isAnyone ∈ tblG := tc_5 146 rfl rfl
theorem lnL_47 : Cond.methodLink RL 47 yX9_leaves ∈ tblG := tc_5 150 rfl rfl
theorem lnL_51 : Cond.methodLink RL 51 yX9_quarters ∈ tblG := tc_5 155 rfl rfl
theorem lnX9_200 : Cond.methodLink RX9 200 yX9_quartersOf ∈ tblG := tc_5 159 rfl rfl
theorem lnX9_194 : Cond.methodLink RX9 194 yX9_tries ∈ tblG := tc_5 163 rfl rfl
theorem lnX9_197 : Cond.methodLink RX9 197 yX9_quartersNow ∈ tblG := tc_5 167 rfl rfl
theorem lnX9_186 : Cond.methodLink RX9 186 yX9_isThere ∈ tblG := tc_5 171 rfl rfl
theorem lnX9_190 : Cond.methodLink RX9 190 yX9_quartersBy ∈ tblG := tc_5 175 rfl rfl
theorem lnL_56 : Cond.methodLink RL 56 yX9_owes ∈ tblG := tc_5 178 rfl rfl
theorem lnX9_244 : Cond.methodLink RX9 244 yX9_isTwo ∈ tblG := tc_5 182 rfl rfl
theorem lnX9_247 : Cond.methodLink RX9 247 yX9_owesOf ∈ tblG := tc_5 185 rfl rfl
theorem lnX9_221 : Cond.methodLink RX9 221 yX9_goes ∈ tblG := tc_5 189 rfl rfl
theorem lnX9_215 : Cond.methodLink RX9 215 yX9_tells ∈ tblG := tc_5 193 rfl rfl
theorem lnX9_212 : Cond.methodLink RX9 212 yX9_laugh ∈ tblG := tc_5 197 rfl rfl
theorem lnX9_203 : Cond.methodLink RX9 203 yX9_ones ∈ tblG := tc_5 201 rfl rfl
theorem lnX9_208 : Cond.methodLink RX9 208 yX9_comes ∈ tblG := tc_5 205 rfl rfl
theorem lnX9_237 : Cond.methodLink RX9 237 yX9_partsOf ∈ tblG := tc_5 209 rfl rfl
theorem lnX9_226 : Cond.methodLink RX9 226 yX9_whole ∈ tblG := tc_5 213 rfl rfl
theorem lnX9_240 : Cond.methodLink RX9 240 yX9_part ∈ tblG := tc_5 217 rfl rfl
theorem lnX9_251 : Cond.methodLink RX9 251 yX9_no ∈ tblG := tc_5 220 rfl rfl
theorem lnL_61 : Cond.methodLink RL 61 yX9_amount ∈ tblG := tc_5 224 rfl rfl
theorem lnX9_254 : Cond.methodLink RX9 254 yX9_amountOf ∈ tblG := tc_5 228 rfl rfl
theorem lnX9_230 : Cond.methodLink RX9 230 yX9_amountNow ∈ tblG := tc_5 232 rfl rfl
theorem lnX9_233 : Cond.methodLink RX9 233 yX9_all ∈ tblG := tc_5 237 rfl rfl
theorem lnL_65 : Cond.methodLink RL 65 yX9_cost ∈ tblG := tc_6 1 rfl rfl
theorem lnX9_261 : Cond.methodLink RX9 261 yX9_costOf ∈ tblG := tc_6 5 rfl rfl
theorem lnX9_258 : Cond.methodLink RX9 258 yX9_costNow ∈ tblG := tc_6 9 rfl rfl
theorem lnL_69 : Cond.methodLink RL 69 yX9_best ∈ tblG := tc_6 13 rfl rfl
theorem lnX9_279 : Cond.methodLink RX9 279 yX9_bestOf ∈ tblG := tc_6 17 rfl rfl
theorem lnX9_276 : Cond.methodLink RX9 276 yX9_findBest ∈ tblG := tc_6 21 rfl rfl
theorem lnL_73 : Cond.methodLink RL 73 yX9_rest ∈ tblG := tc_6 26 rfl rfl
theorem lnX9_288 : Cond.methodLink RX9 288 yX9_restOf ∈ tblG := tc_6 30 rfl rfl
theorem lnX9_285 : Cond.methodLink RX9 285 yX9_rests ∈ tblG := tc_6 34 rfl rfl
theorem lnX9_282 : Cond.methodLink RX9 282 yX9_roundGoes ∈ tblG := tc_6 38 rfl rfl
theorem lnL_77 : Cond.methodLink RL 77 yX9_order ∈ tblG := tc_6 42 rfl rfl
theorem lnX9_294 : Cond.methodLink RX9 294 yX9_findOrder ∈ tblG := tc_6 46 rfl rfl
theorem lnX9_291 : Cond.methodLink RX9 291 yX9_power ∈ tblG := tc_6 50 rfl rfl
theorem lnL_81 : Cond.methodLink RL 81 yX9_among ∈ tblG := tc_6 53 rfl rfl
theorem lnX9_297 : Cond.methodLink RX9 297 yX9_amongOf ∈ tblG := tc_6 57 rfl rfl
theorem lnL_85 : Cond.methodLink RL 85 yX9_hire ∈ tblG := tc_6 61 rfl rfl
theorem lnL_90 : Cond.methodLink RL 90 yX9_other ∈ tblG := tc_6 66 rfl rfl
theorem lnL_94 : Cond.methodLink RL 94 yX9_lawFor ∈ tblG := tc_6 70 rfl rfl
theorem lnX9_302 : Cond.methodLink RX9 302 yX9_lawForOf ∈ tblG := tc_6 74 rfl rfl
theorem lnL_98 : Cond.methodLink RL 98 yX9_edge ∈ tblG := tc_6 78 rfl rfl
theorem lnX9_305 : Cond.methodLink RX9 305 yX9_edgeOf ∈ tblG := tc_6 82 rfl rfl
theorem lnL_102 : Cond.methodLink RL 102 yX9_weight ∈ tblG := tc_6 86 rfl rfl
theorem lnL_106 : Cond.methodLink RL 106 yX9_early ∈ tblG := tc_6 90 rfl rfl
theorem lnX9_311 : Cond.methodLink RX9 311 yX9_earlyOf ∈ tblG := tc_6 94 rfl rfl
theorem lnX9_308 : Cond.methodLink RX9 308 yX9_allWeights ∈ tblG := tc_6 98 rfl rfl
theorem lnL_111 : Cond.methodLink RL 111 yX9_two ∈ tblG := tc_6 102 rfl rfl
theorem lnX9_314 : Cond.methodLink RX9 314 yX9_twoOf ∈ tblG := tc_6 106 rfl rfl
theorem lnL_115 : Cond.methodLink RL 115 yX9_made ∈ tblG := tc_6 110 rfl rfl
theorem lnX9_324 : Cond.methodLink RX9 324 yX9_evening ∈ tblG := tc_6 114 rfl rfl
theorem lnX9_321 : Cond.methodLink RX9 321 yX9_lot ∈ tblG := tc_6 118 rfl rfl
theorem lnL_120 : Cond.methodLink RL 120 yX9_evenings ∈ tblG := tc_6 123 rfl rfl
theorem lnX9_329 : Cond.methodLink RX9 329 yX9_eveningsOf ∈ tblG := tc_6 128 rfl rfl
theorem lnL_125 : Cond.methodLink RL 125 yX9_saw ∈ tblG := tc_6 132 rfl rfl
theorem lnL_129 : Cond.methodLink RL 129 yX9_read ∈ tblG := tc_6 136 rfl rfl
theorem lnX9_335 : Cond.methodLink RX9 335 yX9_saw ∈ tblG := tc_6 140 rfl rfl
theorem lnL_133 : Cond.methodLink RL 133 yX9_off ∈ tblG := tc_6 141 rfl rfl
theorem lnX9_339 : Cond.methodLink RX9 339 yX9_isTicklish ∈ tblG := tc_6 145 rfl rfl
theorem lnX9_342 : Cond.methodLink RX9 342 yX9_offOf ∈ tblG := tc_6 148 rfl rfl
theorem lnL_137 : Cond.methodLink RL 137 yX9_guess ∈ tblG := tc_6 152 rfl rfl
theorem lnX9_345 : Cond.methodLink RX9 345 yX9_guessOf ∈ tblG := tc_6 156 rfl rfl
theorem lnL_141 : Cond.methodLink RL 141 yX9_laughs ∈ tblG := tc_6 160 rfl rfl
theorem lnL_166 : Cond.methodLink RL 166 yX9_write ∈ tblG := tc_6 164 rfl rfl
theorem lnL_170 : Cond.methodLink RL 170 yX9_count ∈ tblG := tc_6 168 rfl rfl
theorem lnL_175 : Cond.methodLink RL 175 yX9_digest ∈ tblG := tc_6 172 rfl rfl
theorem lnX9_352 : Cond.methodLink RX9 352 yX9_count ∈ tblG := tc_6 178 rfl rfl
theorem nsX3_71 : Cond.methodLinkNest RX3 71 yX8_within "LaughsLast" ∈ nestW := by decide +kernel
theorem nsX1_72 : Cond.methodLinkNest RX1 72 yX8_hasBit "LaughsLast" ∈ nestW := by decide +kernel
theorem nsX1_75 : Cond.methodLinkNest RX1 75 yX8_quartersOf "LaughsLast" ∈ nestW := by decide +kernel
theorem nsX0_84 : Cond.methodLinkNest RX0 84 yX8_hasBit "LaughsLast" ∈ nestW := by decide +kernel
theorem nsX4_118 : Cond.methodLinkNest RX4 118 yX8_hasBit "LaughsLast" ∈ nestW := by decide +kernel
theorem nsX2_53 : Cond.methodLinkNest RX2 53 yX8_hasBit "LaughsLast" ∈ nestW := by decide +kernel
theorem nsX5_31 : Cond.methodLinkNest RX5 31 yX8_quartersOf "LaughsLast" ∈ nestW := by decide +kernel
theorem cnX8_344 : Cond.constantLong RX8 344 (Int64.ofInt (-9223372036854775808)) ∈ tblG := tc_2 206 rfl rfl
theorem cnJ6_265 : Cond.constant RJ6 265 (Int32.ofInt (1431655765)) ∈ tblG := tc_2 231 rfl rfl
theorem cnJ6_266 : Cond.constant RJ6 266 (Int32.ofInt (858993459)) ∈ tblG := tc_2 232 rfl rfl
theorem cnJ6_267 : Cond.constant RJ6 267 (Int32.ofInt (252645135)) ∈ tblG := tc_2 233 rfl rfl
theorem cnX0_110 : Cond.constantLong RX0 110 (Int64.ofInt (12)) ∈ tblG := tc_2 234 rfl rfl
theorem cnX0_128 : Cond.constantLong RX0 128 (Int64.ofInt (2)) ∈ tblG := tc_3 14 rfl rfl
theorem cnX4_55 : Cond.constantLong RX4 55 (Int64.ofInt (9223372036854775807)) ∈ tblG := tc_3 93 rfl rfl
theorem cnX2_56 : Cond.constant RX2 56 (Int32.ofInt (1103515245)) ∈ tblG := tc_3 213 rfl rfl
theorem cnX5_39 : Cond.constant RX5 39 (Int32.ofInt (2147483647)) ∈ tblG := tc_4 36 rfl rfl
theorem cnX8_283 : Cond.constant RX8 283 (Int32.ofInt (-2147483648)) ∈ tblG := tc_4 85 rfl rfl
theorem cnX8_306 : Cond.constantLong RX8 306 (Int64.ofInt (17)) ∈ tblG := tc_4 123 rfl rfl
theorem cnX8_308 : Cond.constantLong RX8 308 (Int64.ofInt (31)) ∈ tblG := tc_4 124 rfl rfl
theorem cnX6_26 : Cond.constantLong RX6 26 (Int64.ofInt (31)) ∈ tblG := tc_4 136 rfl rfl
theorem cnX9_97 : Cond.constantLong RX9 97 (Int64.ofInt (3)) ∈ tblG := tc_5 44 rfl rfl
theorem cnX9_103 : Cond.constantLong RX9 103 (Int64.ofInt (2)) ∈ tblG := tc_5 48 rfl rfl
theorem cnX9_117 : Cond.constant RX9 117 (Int32.ofInt (-2147483648)) ∈ tblG := tc_5 72 rfl rfl
theorem cnX9_118 : Cond.constantLong RX9 118 (Int64.ofInt (255)) ∈ tblG := tc_5 81 rfl rfl
theorem cnX9_167 : Cond.constantLong RX9 167 (Int64.ofInt (15)) ∈ tblG := tc_5 149 rfl rfl
theorem cnX9_169 : Cond.constantLong RX9 169 (Int64.ofInt (4)) ∈ tblG := tc_5 154 rfl rfl
theorem cnX9_206 : Cond.constantLong RX9 206 (Int64.ofInt (12)) ∈ tblG := tc_5 204 rfl rfl
theorem cnX9_219 : Cond.constantLong RX9 219 (Int64.ofInt (3072)) ∈ tblG := tc_5 216 rfl rfl
theorem cnX9_87 : Cond.constantLong RX9 87 (Int64.ofInt (-9223372036854775808)) ∈ tblG := tc_5 223 rfl rfl
theorem cnX9_224 : Cond.constantLong RX9 224 (Int64.ofInt (16)) ∈ tblG := tc_5 236 rfl rfl
theorem cnX9_264 : Cond.constantLong RX9 264 (Int64.ofInt (-1)) ∈ tblG := tc_6 25 rfl rfl
theorem cnX9_300 : Cond.constantLong RX9 300 (Int64.ofInt (9)) ∈ tblG := tc_6 65 rfl rfl
theorem cnX9_317 : Cond.constant RX9 317 (Int32.ofInt (1103515245)) ∈ tblG := tc_6 122 rfl rfl
theorem cnX9_327 : Cond.constantLong RX9 327 (Int64.ofInt (200)) ∈ tblG := tc_6 127 rfl rfl
theorem cnX9_348 : Cond.constantLong RX9 348 (Int64.ofInt (17)) ∈ tblG := tc_6 176 rfl rfl
theorem cnX9_350 : Cond.constantLong RX9 350 (Int64.ofInt (31)) ∈ tblG := tc_6 177 rfl rfl
theorem gfX3_9 {K : MK} {pc : Nat} {L : List (Option AV)} {st : List AV} {μ : Mem} {post : Option AV → Mem → Prop} (d : decode K.2.1 pc = .ok (.getfield 9, 3)) (ho : K.1.cls = RX3) (kk : AW K (pc + 3) L (.inr (.inr 13) :: st) μ post) : AW K pc L (.inr (.inr 1) :: st) μ post := z_get (T := TX3) (k := 0) (q := (2, 13)) d ho inK3 (tc_1 28 rfl rfl) rfl rfl (by decide) rfl rfl kk

theorem gfX3_28 {K : MK} {pc : Nat} {L : List (Option AV)} {st : List AV} {μ : Mem} {post : Option AV → Mem → Prop} (d : decode K.2.1 pc = .ok (.getfield 28, 3)) (ho : K.1.cls = RX3) (kk : AW K (pc + 3) L (.inl (μ 100 0) :: st) μ post) : AW K pc L (.inr (.inr 1) :: st) μ post := z_get (T := TX3) (k := 1) (q := (0, 100)) d ho inK3 (tc_1 29 rfl rfl) rfl rfl (by decide) rfl rfl kk

theorem pfX3_28 {K : MK} {pc : Nat} {L : List (Option AV)} {st : List AV} {μ : Mem} {post : Option AV → Mem → Prop} {z : Int} (d : decode K.2.1 pc = .ok (.putfield 28, 3)) (ho : K.1.cls = RX3) (kk : AW K (pc + 3) L st (wr μ 100 0 z) post) : AW K pc L (.inl z :: .inr (.inr 1) :: st) μ post := z_put (T := TX3) (k := 1) (tg := 0) (id := 100) (v := .inl z) tyX3 d ho inK3 tyX3_ok nmX3 (tc_1 29 rfl rfl) rfl rfl (by decide) rfl rfl (ty := .int) (by decide +kernel) rfl (fun ad => by simp only [cv, fvv, wr_same]) (fun _ => rfl) (fun _ => rfl) (by decide +kernel) (by decide +kernel) kk

theorem gfX8_89 {K : MK} {pc : Nat} {L : List (Option AV)} {st : List AV} {μ : Mem} {post : Option AV → Mem → Prop} (d : decode K.2.1 pc = .ok (.getfield 89, 3)) (ho : K.1.cls = RX8) (kk : AW K (pc + 3) L (.inl (μ 100 0) :: st) μ post) : AW K pc L (.inr (.inr 1) :: st) μ post := z_get (T := TX3) (k := 1) (q := (0, 100)) d ho inK3 (tc_1 30 rfl rfl) rfl rfl (by decide) rfl rfl kk

theorem pfX8_89 {K : MK} {pc : Nat} {L : List (Option AV)} {st : List AV} {μ : Mem} {post : Option AV → Mem → Prop} {z : Int} (d : decode K.2.1 pc = .ok (.putfield 89, 3)) (ho : K.1.cls = RX8) (kk : AW K (pc + 3) L st (wr μ 100 0 z) post) : AW K pc L (.inl z :: .inr (.inr 1) :: st) μ post := z_put (T := TX3) (k := 1) (tg := 0) (id := 100) (v := .inl z) tyX3 d ho inK3 tyX3_ok nmX3 (tc_1 30 rfl rfl) rfl rfl (by decide) rfl rfl (ty := .int) (by decide +kernel) rfl (fun ad => by simp only [cv, fvv, wr_same]) (fun _ => rfl) (fun _ => rfl) (by decide +kernel) (by decide +kernel) kk

theorem gfX3_15 {K : MK} {pc : Nat} {L : List (Option AV)} {st : List AV} {μ : Mem} {post : Option AV → Mem → Prop} (d : decode K.2.1 pc = .ok (.getfield 15, 3)) (ho : K.1.cls = RX3) (kk : AW K (pc + 3) L (.inl (μ 101 0) :: st) μ post) : AW K pc L (.inr (.inr 1) :: st) μ post := z_get (T := TX3) (k := 2) (q := (0, 101)) d ho inK3 (tc_1 31 rfl rfl) rfl rfl (by decide) rfl rfl kk

theorem pfX3_15 {K : MK} {pc : Nat} {L : List (Option AV)} {st : List AV} {μ : Mem} {post : Option AV → Mem → Prop} {z : Int} (d : decode K.2.1 pc = .ok (.putfield 15, 3)) (ho : K.1.cls = RX3) (kk : AW K (pc + 3) L st (wr μ 101 0 z) post) : AW K pc L (.inl z :: .inr (.inr 1) :: st) μ post := z_put (T := TX3) (k := 2) (tg := 0) (id := 101) (v := .inl z) tyX3 d ho inK3 tyX3_ok nmX3 (tc_1 31 rfl rfl) rfl rfl (by decide) rfl rfl (ty := .int) (by decide +kernel) rfl (fun ad => by simp only [cv, fvv, wr_same]) (fun _ => rfl) (fun _ => rfl) (by decide +kernel) (by decide +kernel) kk

theorem gfX8_96 {K : MK} {pc : Nat} {L : List (Option AV)} {st : List AV} {μ : Mem} {post : Option AV → Mem → Prop} (d : decode K.2.1 pc = .ok (.getfield 96, 3)) (ho : K.1.cls = RX8) (kk : AW K (pc + 3) L (.inl (μ 101 0) :: st) μ post) : AW K pc L (.inr (.inr 1) :: st) μ post := z_get (T := TX3) (k := 2) (q := (0, 101)) d ho inK3 (tc_1 32 rfl rfl) rfl rfl (by decide) rfl rfl kk

theorem pfX8_96 {K : MK} {pc : Nat} {L : List (Option AV)} {st : List AV} {μ : Mem} {post : Option AV → Mem → Prop} {z : Int} (d : decode K.2.1 pc = .ok (.putfield 96, 3)) (ho : K.1.cls = RX8) (kk : AW K (pc + 3) L st (wr μ 101 0 z) post) : AW K pc L (.inl z :: .inr (.inr 1) :: st) μ post := z_put (T := TX3) (k := 2) (tg := 0) (id := 101) (v := .inl z) tyX3 d ho inK3 tyX3_ok nmX3 (tc_1 32 rfl rfl) rfl rfl (by decide) rfl rfl (ty := .int) (by decide +kernel) rfl (fun ad => by simp only [cv, fvv, wr_same]) (fun _ => rfl) (fun _ => rfl) (by decide +kernel) (by decide +kernel) kk

theorem gfX1_34 {K : MK} {pc : Nat} {L : List (Option AV)} {st : List AV} {μ : Mem} {post : Option AV → Mem → Prop} (d : decode K.2.1 pc = .ok (.getfield 34, 3)) (ho : K.1.cls = RX1) (kk : AW K (pc + 3) L (.inl (μ 102 0) :: st) μ post) : AW K pc L (.inr (.inr 1) :: st) μ post := z_get (T := TX3) (k := 3) (q := (0, 102)) d ho inK3 (tc_1 33 rfl rfl) rfl rfl (by decide) rfl rfl kk

theorem pfX1_34 {K : MK} {pc : Nat} {L : List (Option AV)} {st : List AV} {μ : Mem} {post : Option AV → Mem → Prop} {z : Int} (d : decode K.2.1 pc = .ok (.putfield 34, 3)) (ho : K.1.cls = RX1) (kk : AW K (pc + 3) L st (wr μ 102 0 z) post) : AW K pc L (.inl z :: .inr (.inr 1) :: st) μ post := z_put (T := TX3) (k := 3) (tg := 0) (id := 102) (v := .inl z) tyX3 d ho inK3 tyX3_ok nmX3 (tc_1 33 rfl rfl) rfl rfl (by decide) rfl rfl (ty := .int) (by decide +kernel) rfl (fun ad => by simp only [cv, fvv, wr_same]) (fun _ => rfl) (fun _ => rfl) (by decide +kernel) (by decide +kernel) kk

theorem gfX3_37 {K : MK} {pc : Nat} {L : List (Option AV)} {st : List AV} {μ : Mem} {post : Option AV → Mem → Prop} (d : decode K.2.1 pc = .ok (.getfield 37, 3)) (ho : K.1.cls = RX3) (kk : AW K (pc + 3) L (.inl (μ 102 0) :: st) μ post) : AW K pc L (.inr (.inr 1) :: st) μ post := z_get (T := TX3) (k := 3) (q := (0, 102)) d ho inK3 (tc_1 34 rfl rfl) rfl rfl (by decide) rfl rfl kk

theorem pfX3_37 {K : MK} {pc : Nat} {L : List (Option AV)} {st : List AV} {μ : Mem} {post : Option AV → Mem → Prop} {z : Int} (d : decode K.2.1 pc = .ok (.putfield 37, 3)) (ho : K.1.cls = RX3) (kk : AW K (pc + 3) L st (wr μ 102 0 z) post) : AW K pc L (.inl z :: .inr (.inr 1) :: st) μ post := z_put (T := TX3) (k := 3) (tg := 0) (id := 102) (v := .inl z) tyX3 d ho inK3 tyX3_ok nmX3 (tc_1 34 rfl rfl) rfl rfl (by decide) rfl rfl (ty := .int) (by decide +kernel) rfl (fun ad => by simp only [cv, fvv, wr_same]) (fun _ => rfl) (fun _ => rfl) (by decide +kernel) (by decide +kernel) kk

theorem gfX8_182 {K : MK} {pc : Nat} {L : List (Option AV)} {st : List AV} {μ : Mem} {post : Option AV → Mem → Prop} (d : decode K.2.1 pc = .ok (.getfield 182, 3)) (ho : K.1.cls = RX8) (kk : AW K (pc + 3) L (.inl (μ 102 0) :: st) μ post) : AW K pc L (.inr (.inr 1) :: st) μ post := z_get (T := TX3) (k := 3) (q := (0, 102)) d ho inK3 (tc_1 35 rfl rfl) rfl rfl (by decide) rfl rfl kk

theorem pfX8_182 {K : MK} {pc : Nat} {L : List (Option AV)} {st : List AV} {μ : Mem} {post : Option AV → Mem → Prop} {z : Int} (d : decode K.2.1 pc = .ok (.putfield 182, 3)) (ho : K.1.cls = RX8) (kk : AW K (pc + 3) L st (wr μ 102 0 z) post) : AW K pc L (.inl z :: .inr (.inr 1) :: st) μ post := z_put (T := TX3) (k := 3) (tg := 0) (id := 102) (v := .inl z) tyX3 d ho inK3 tyX3_ok nmX3 (tc_1 35 rfl rfl) rfl rfl (by decide) rfl rfl (ty := .int) (by decide +kernel) rfl (fun ad => by simp only [cv, fvv, wr_same]) (fun _ => rfl) (fun _ => rfl) (by decide +kernel) (by decide +kernel) kk

theorem gfX1_41 {K : MK} {pc : Nat} {L : List (Option AV)} {st : List AV} {μ : Mem} {post : Option AV → Mem → Prop} (d : decode K.2.1 pc = .ok (.getfield 41, 3)) (ho : K.1.cls = RX1) (kk : AW K (pc + 3) L (.inl (μ 103 0) :: st) μ post) : AW K pc L (.inr (.inr 1) :: st) μ post := z_get (T := TX3) (k := 4) (q := (0, 103)) d ho inK3 (tc_1 36 rfl rfl) rfl rfl (by decide) rfl rfl kk

theorem pfX1_41 {K : MK} {pc : Nat} {L : List (Option AV)} {st : List AV} {μ : Mem} {post : Option AV → Mem → Prop} {z : Int} (d : decode K.2.1 pc = .ok (.putfield 41, 3)) (ho : K.1.cls = RX1) (kk : AW K (pc + 3) L st (wr μ 103 0 z) post) : AW K pc L (.inl z :: .inr (.inr 1) :: st) μ post := z_put (T := TX3) (k := 4) (tg := 0) (id := 103) (v := .inl z) tyX3 d ho inK3 tyX3_ok nmX3 (tc_1 36 rfl rfl) rfl rfl (by decide) rfl rfl (ty := .int) (by decide +kernel) rfl (fun ad => by simp only [cv, fvv, wr_same]) (fun _ => rfl) (fun _ => rfl) (by decide +kernel) (by decide +kernel) kk

theorem gfX3_34 {K : MK} {pc : Nat} {L : List (Option AV)} {st : List AV} {μ : Mem} {post : Option AV → Mem → Prop} (d : decode K.2.1 pc = .ok (.getfield 34, 3)) (ho : K.1.cls = RX3) (kk : AW K (pc + 3) L (.inl (μ 103 0) :: st) μ post) : AW K pc L (.inr (.inr 1) :: st) μ post := z_get (T := TX3) (k := 4) (q := (0, 103)) d ho inK3 (tc_1 37 rfl rfl) rfl rfl (by decide) rfl rfl kk

theorem pfX3_34 {K : MK} {pc : Nat} {L : List (Option AV)} {st : List AV} {μ : Mem} {post : Option AV → Mem → Prop} {z : Int} (d : decode K.2.1 pc = .ok (.putfield 34, 3)) (ho : K.1.cls = RX3) (kk : AW K (pc + 3) L st (wr μ 103 0 z) post) : AW K pc L (.inl z :: .inr (.inr 1) :: st) μ post := z_put (T := TX3) (k := 4) (tg := 0) (id := 103) (v := .inl z) tyX3 d ho inK3 tyX3_ok nmX3 (tc_1 37 rfl rfl) rfl rfl (by decide) rfl rfl (ty := .int) (by decide +kernel) rfl (fun ad => by simp only [cv, fvv, wr_same]) (fun _ => rfl) (fun _ => rfl) (by decide +kernel) (by decide +kernel) kk

theorem gfX8_121 {K : MK} {pc : Nat} {L : List (Option AV)} {st : List AV} {μ : Mem} {post : Option AV → Mem → Prop} (d : decode K.2.1 pc = .ok (.getfield 121, 3)) (ho : K.1.cls = RX8) (kk : AW K (pc + 3) L (.inl (μ 103 0) :: st) μ post) : AW K pc L (.inr (.inr 1) :: st) μ post := z_get (T := TX3) (k := 4) (q := (0, 103)) d ho inK3 (tc_1 38 rfl rfl) rfl rfl (by decide) rfl rfl kk

theorem pfX8_121 {K : MK} {pc : Nat} {L : List (Option AV)} {st : List AV} {μ : Mem} {post : Option AV → Mem → Prop} {z : Int} (d : decode K.2.1 pc = .ok (.putfield 121, 3)) (ho : K.1.cls = RX8) (kk : AW K (pc + 3) L st (wr μ 103 0 z) post) : AW K pc L (.inl z :: .inr (.inr 1) :: st) μ post := z_put (T := TX3) (k := 4) (tg := 0) (id := 103) (v := .inl z) tyX3 d ho inK3 tyX3_ok nmX3 (tc_1 38 rfl rfl) rfl rfl (by decide) rfl rfl (ty := .int) (by decide +kernel) rfl (fun ad => by simp only [cv, fvv, wr_same]) (fun _ => rfl) (fun _ => rfl) (by decide +kernel) (by decide +kernel) kk

theorem gfX3_19 {K : MK} {pc : Nat} {L : List (Option AV)} {st : List AV} {μ : Mem} {post : Option AV → Mem → Prop} (d : decode K.2.1 pc = .ok (.getfield 19, 3)) (ho : K.1.cls = RX3) (kk : AW K (pc + 3) L (.inr (.inr 14) :: st) μ post) : AW K pc L (.inr (.inr 1) :: st) μ post := z_get (T := TX3) (k := 5) (q := (2, 14)) d ho inK3 (tc_1 39 rfl rfl) rfl rfl (by decide) rfl rfl kk

theorem gfX1_60 {K : MK} {pc : Nat} {L : List (Option AV)} {st : List AV} {μ : Mem} {post : Option AV → Mem → Prop} (d : decode K.2.1 pc = .ok (.getfield 60, 3)) (ho : K.1.cls = RX1) (kk : AW K (pc + 3) L (.inr (.inr 14) :: st) μ post) : AW K pc L (.inr (.inr 1) :: st) μ post := z_get (T := TX3) (k := 5) (q := (2, 14)) d ho inK3 (tc_1 40 rfl rfl) rfl rfl (by decide) rfl rfl kk

theorem gfX8_102 {K : MK} {pc : Nat} {L : List (Option AV)} {st : List AV} {μ : Mem} {post : Option AV → Mem → Prop} (d : decode K.2.1 pc = .ok (.getfield 102, 3)) (ho : K.1.cls = RX8) (kk : AW K (pc + 3) L (.inr (.inr 14) :: st) μ post) : AW K pc L (.inr (.inr 1) :: st) μ post := z_get (T := TX3) (k := 5) (q := (2, 14)) d ho inK3 (tc_1 41 rfl rfl) rfl rfl (by decide) rfl rfl kk

theorem gfX3_22 {K : MK} {pc : Nat} {L : List (Option AV)} {st : List AV} {μ : Mem} {post : Option AV → Mem → Prop} (d : decode K.2.1 pc = .ok (.getfield 22, 3)) (ho : K.1.cls = RX3) (kk : AW K (pc + 3) L (.inr (.inr 15) :: st) μ post) : AW K pc L (.inr (.inr 1) :: st) μ post := z_get (T := TX3) (k := 6) (q := (2, 15)) d ho inK3 (tc_1 42 rfl rfl) rfl rfl (by decide) rfl rfl kk

theorem gfX1_67 {K : MK} {pc : Nat} {L : List (Option AV)} {st : List AV} {μ : Mem} {post : Option AV → Mem → Prop} (d : decode K.2.1 pc = .ok (.getfield 67, 3)) (ho : K.1.cls = RX1) (kk : AW K (pc + 3) L (.inr (.inr 15) :: st) μ post) : AW K pc L (.inr (.inr 1) :: st) μ post := z_get (T := TX3) (k := 6) (q := (2, 15)) d ho inK3 (tc_1 43 rfl rfl) rfl rfl (by decide) rfl rfl kk

theorem gfX8_108 {K : MK} {pc : Nat} {L : List (Option AV)} {st : List AV} {μ : Mem} {post : Option AV → Mem → Prop} (d : decode K.2.1 pc = .ok (.getfield 108, 3)) (ho : K.1.cls = RX8) (kk : AW K (pc + 3) L (.inr (.inr 15) :: st) μ post) : AW K pc L (.inr (.inr 1) :: st) μ post := z_get (T := TX3) (k := 6) (q := (2, 15)) d ho inK3 (tc_1 44 rfl rfl) rfl rfl (by decide) rfl rfl kk

theorem gfX3_25 {K : MK} {pc : Nat} {L : List (Option AV)} {st : List AV} {μ : Mem} {post : Option AV → Mem → Prop} (d : decode K.2.1 pc = .ok (.getfield 25, 3)) (ho : K.1.cls = RX3) (kk : AW K (pc + 3) L (.inr (.inr 16) :: st) μ post) : AW K pc L (.inr (.inr 1) :: st) μ post := z_get (T := TX3) (k := 7) (q := (2, 16)) d ho inK3 (tc_1 45 rfl rfl) rfl rfl (by decide) rfl rfl kk

theorem gfX1_45 {K : MK} {pc : Nat} {L : List (Option AV)} {st : List AV} {μ : Mem} {post : Option AV → Mem → Prop} (d : decode K.2.1 pc = .ok (.getfield 45, 3)) (ho : K.1.cls = RX1) (kk : AW K (pc + 3) L (.inr (.inr 16) :: st) μ post) : AW K pc L (.inr (.inr 1) :: st) μ post := z_get (T := TX3) (k := 7) (q := (2, 16)) d ho inK3 (tc_1 46 rfl rfl) rfl rfl (by decide) rfl rfl kk

theorem gfX8_111 {K : MK} {pc : Nat} {L : List (Option AV)} {st : List AV} {μ : Mem} {post : Option AV → Mem → Prop} (d : decode K.2.1 pc = .ok (.getfield 111, 3)) (ho : K.1.cls = RX8) (kk : AW K (pc + 3) L (.inr (.inr 16) :: st) μ post) : AW K pc L (.inr (.inr 1) :: st) μ post := z_get (T := TX3) (k := 7) (q := (2, 16)) d ho inK3 (tc_1 47 rfl rfl) rfl rfl (by decide) rfl rfl kk

theorem gfX3_47 {K : MK} {pc : Nat} {L : List (Option AV)} {st : List AV} {μ : Mem} {post : Option AV → Mem → Prop} (d : decode K.2.1 pc = .ok (.getfield 47, 3)) (ho : K.1.cls = RX3) (kk : AW K (pc + 3) L (.inl (μ 104 0) :: st) μ post) : AW K pc L (.inr (.inr 1) :: st) μ post := z_get (T := TX3) (k := 8) (q := (0, 104)) d ho inK3 (tc_1 48 rfl rfl) rfl rfl (by decide) rfl rfl kk

theorem pfX3_47 {K : MK} {pc : Nat} {L : List (Option AV)} {st : List AV} {μ : Mem} {post : Option AV → Mem → Prop} {z : Int} (d : decode K.2.1 pc = .ok (.putfield 47, 3)) (ho : K.1.cls = RX3) (kk : AW K (pc + 3) L st (wr μ 104 0 z) post) : AW K pc L (.inl z :: .inr (.inr 1) :: st) μ post := z_put (T := TX3) (k := 8) (tg := 0) (id := 104) (v := .inl z) tyX3 d ho inK3 tyX3_ok nmX3 (tc_1 48 rfl rfl) rfl rfl (by decide) rfl rfl (ty := .int) (by decide +kernel) rfl (fun ad => by simp only [cv, fvv, wr_same]) (fun _ => rfl) (fun _ => rfl) (by decide +kernel) (by decide +kernel) kk

theorem gfX1_24 {K : MK} {pc : Nat} {L : List (Option AV)} {st : List AV} {μ : Mem} {post : Option AV → Mem → Prop} (d : decode K.2.1 pc = .ok (.getfield 24, 3)) (ho : K.1.cls = RX1) (kk : AW K (pc + 3) L (.inr (.inr 1) :: st) μ post) : AW K pc L (.inr (.inr 2) :: st) μ post := z_get (T := TX1) (k := 0) (q := (2, 1)) d ho inK1 (tc_1 75 rfl rfl) rfl rfl (by decide) rfl rfl kk

theorem gfX1_28 {K : MK} {pc : Nat} {L : List (Option AV)} {st : List AV} {μ : Mem} {post : Option AV → Mem → Prop} (d : decode K.2.1 pc = .ok (.getfield 28, 3)) (ho : K.1.cls = RX1) (kk : AW K (pc + 3) L (.inr (.inr 10) :: st) μ post) : AW K pc L (.inr (.inr 2) :: st) μ post := z_get (T := TX1) (k := 1) (q := (2, 10)) d ho inK1 (tc_1 76 rfl rfl) rfl rfl (by decide) rfl rfl kk

theorem gfX1_31 {K : MK} {pc : Nat} {L : List (Option AV)} {st : List AV} {μ : Mem} {post : Option AV → Mem → Prop} (d : decode K.2.1 pc = .ok (.getfield 31, 3)) (ho : K.1.cls = RX1) (kk : AW K (pc + 3) L (.inr (.inr 11) :: st) μ post) : AW K pc L (.inr (.inr 2) :: st) μ post := z_get (T := TX1) (k := 2) (q := (2, 11)) d ho inK1 (tc_1 77 rfl rfl) rfl rfl (by decide) rfl rfl kk

theorem gfX1_40 {K : MK} {pc : Nat} {L : List (Option AV)} {st : List AV} {μ : Mem} {post : Option AV → Mem → Prop} (d : decode K.2.1 pc = .ok (.getfield 40, 3)) (ho : K.1.cls = RX1) (kk : AW K (pc + 3) L (.inl (μ 105 0) :: st) μ post) : AW K pc L (.inr (.inr 2) :: st) μ post := z_get (T := TX1) (k := 3) (q := (0, 105)) d ho inK1 (tc_1 78 rfl rfl) rfl rfl (by decide) rfl rfl kk

theorem pfX1_40 {K : MK} {pc : Nat} {L : List (Option AV)} {st : List AV} {μ : Mem} {post : Option AV → Mem → Prop} {z : Int} (d : decode K.2.1 pc = .ok (.putfield 40, 3)) (ho : K.1.cls = RX1) (kk : AW K (pc + 3) L st (wr μ 105 0 z) post) : AW K pc L (.inl z :: .inr (.inr 2) :: st) μ post := z_put (T := TX1) (k := 3) (tg := 0) (id := 105) (v := .inl z) tyX1 d ho inK1 tyX1_ok nmX1 (tc_1 78 rfl rfl) rfl rfl (by decide) rfl rfl (ty := .int) (by decide +kernel) rfl (fun ad => by simp only [cv, fvv, wr_same]) (fun _ => rfl) (fun _ => rfl) (by decide +kernel) (by decide +kernel) kk

theorem gfX2_34 {K : MK} {pc : Nat} {L : List (Option AV)} {st : List AV} {μ : Mem} {post : Option AV → Mem → Prop} (d : decode K.2.1 pc = .ok (.getfield 34, 3)) (ho : K.1.cls = RX2) (kk : AW K (pc + 3) L (.inl (μ 105 0) :: st) μ post) : AW K pc L (.inr (.inr 2) :: st) μ post := z_get (T := TX1) (k := 3) (q := (0, 105)) d ho inK1 (tc_1 79 rfl rfl) rfl rfl (by decide) rfl rfl kk

theorem pfX2_34 {K : MK} {pc : Nat} {L : List (Option AV)} {st : List AV} {μ : Mem} {post : Option AV → Mem → Prop} {z : Int} (d : decode K.2.1 pc = .ok (.putfield 34, 3)) (ho : K.1.cls = RX2) (kk : AW K (pc + 3) L st (wr μ 105 0 z) post) : AW K pc L (.inl z :: .inr (.inr 2) :: st) μ post := z_put (T := TX1) (k := 3) (tg := 0) (id := 105) (v := .inl z) tyX1 d ho inK1 tyX1_ok nmX1 (tc_1 79 rfl rfl) rfl rfl (by decide) rfl rfl (ty := .int) (by decide +kernel) rfl (fun ad => by simp only [cv, fvv, wr_same]) (fun _ => rfl) (fun _ => rfl) (by decide +kernel) (by decide +kernel) kk

theorem gfX4_101 {K : MK} {pc : Nat} {L : List (Option AV)} {st : List AV} {μ : Mem} {post : Option AV → Mem → Prop} (d : decode K.2.1 pc = .ok (.getfield 101, 3)) (ho : K.1.cls = RX4) (kk : AW K (pc + 3) L (.inl (μ 105 0) :: st) μ post) : AW K pc L (.inr (.inr 2) :: st) μ post := z_get (T := TX1) (k := 3) (q := (0, 105)) d ho inK1 (tc_1 80 rfl rfl) rfl rfl (by decide) rfl rfl kk

theorem pfX4_101 {K : MK} {pc : Nat} {L : List (Option AV)} {st : List AV} {μ : Mem} {post : Option AV → Mem → Prop} {z : Int} (d : decode K.2.1 pc = .ok (.putfield 101, 3)) (ho : K.1.cls = RX4) (kk : AW K (pc + 3) L st (wr μ 105 0 z) post) : AW K pc L (.inl z :: .inr (.inr 2) :: st) μ post := z_put (T := TX1) (k := 3) (tg := 0) (id := 105) (v := .inl z) tyX1 d ho inK1 tyX1_ok nmX1 (tc_1 80 rfl rfl) rfl rfl (by decide) rfl rfl (ty := .int) (by decide +kernel) rfl (fun ad => by simp only [cv, fvv, wr_same]) (fun _ => rfl) (fun _ => rfl) (by decide +kernel) (by decide +kernel) kk

theorem gfX0_91 {K : MK} {pc : Nat} {L : List (Option AV)} {st : List AV} {μ : Mem} {post : Option AV → Mem → Prop} (d : decode K.2.1 pc = .ok (.getfield 91, 3)) (ho : K.1.cls = RX0) (kk : AW K (pc + 3) L (.inl (μ 105 0) :: st) μ post) : AW K pc L (.inr (.inr 2) :: st) μ post := z_get (T := TX1) (k := 3) (q := (0, 105)) d ho inK1 (tc_1 81 rfl rfl) rfl rfl (by decide) rfl rfl kk

theorem pfX0_91 {K : MK} {pc : Nat} {L : List (Option AV)} {st : List AV} {μ : Mem} {post : Option AV → Mem → Prop} {z : Int} (d : decode K.2.1 pc = .ok (.putfield 91, 3)) (ho : K.1.cls = RX0) (kk : AW K (pc + 3) L st (wr μ 105 0 z) post) : AW K pc L (.inl z :: .inr (.inr 2) :: st) μ post := z_put (T := TX1) (k := 3) (tg := 0) (id := 105) (v := .inl z) tyX1 d ho inK1 tyX1_ok nmX1 (tc_1 81 rfl rfl) rfl rfl (by decide) rfl rfl (ty := .int) (by decide +kernel) rfl (fun ad => by simp only [cv, fvv, wr_same]) (fun _ => rfl) (fun _ => rfl) (by decide +kernel) (by decide +kernel) kk

theorem gfX2_15 {K : MK} {pc : Nat} {L : List (Option AV)} {st : List AV} {μ : Mem} {post : Option AV → Mem → Prop} (d : decode K.2.1 pc = .ok (.getfield 15, 3)) (ho : K.1.cls = RX2) (kk : AW K (pc + 3) L (.inl (μ 106 0) :: st) μ post) : AW K pc L (.inr (.inr 2) :: st) μ post := z_get (T := TX1) (k := 4) (q := (0, 106)) d ho inK1 (tc_1 82 rfl rfl) rfl rfl (by decide) rfl rfl kk

theorem pfX2_15 {K : MK} {pc : Nat} {L : List (Option AV)} {st : List AV} {μ : Mem} {post : Option AV → Mem → Prop} {z : Int} (d : decode K.2.1 pc = .ok (.putfield 15, 3)) (ho : K.1.cls = RX2) (kk : AW K (pc + 3) L st (wr μ 106 0 z) post) : AW K pc L (.inl z :: .inr (.inr 2) :: st) μ post := z_put (T := TX1) (k := 4) (tg := 0) (id := 106) (v := .inl z) tyX1 d ho inK1 tyX1_ok nmX1 (tc_1 82 rfl rfl) rfl rfl (by decide) rfl rfl (ty := .int) (by decide +kernel) rfl (fun ad => by simp only [cv, fvv, wr_same]) (fun _ => rfl) (fun _ => rfl) (by decide +kernel) (by decide +kernel) kk

theorem gfX0_34 {K : MK} {pc : Nat} {L : List (Option AV)} {st : List AV} {μ : Mem} {post : Option AV → Mem → Prop} (d : decode K.2.1 pc = .ok (.getfield 34, 3)) (ho : K.1.cls = RX0) (kk : AW K (pc + 3) L (.inl (μ 106 0) :: st) μ post) : AW K pc L (.inr (.inr 2) :: st) μ post := z_get (T := TX1) (k := 4) (q := (0, 106)) d ho inK1 (tc_1 83 rfl rfl) rfl rfl (by decide) rfl rfl kk

theorem pfX0_34 {K : MK} {pc : Nat} {L : List (Option AV)} {st : List AV} {μ : Mem} {post : Option AV → Mem → Prop} {z : Int} (d : decode K.2.1 pc = .ok (.putfield 34, 3)) (ho : K.1.cls = RX0) (kk : AW K (pc + 3) L st (wr μ 106 0 z) post) : AW K pc L (.inl z :: .inr (.inr 2) :: st) μ post := z_put (T := TX1) (k := 4) (tg := 0) (id := 106) (v := .inl z) tyX1 d ho inK1 tyX1_ok nmX1 (tc_1 83 rfl rfl) rfl rfl (by decide) rfl rfl (ty := .int) (by decide +kernel) rfl (fun ad => by simp only [cv, fvv, wr_same]) (fun _ => rfl) (fun _ => rfl) (by decide +kernel) (by decide +kernel) kk

theorem gfX1_44 {K : MK} {pc : Nat} {L : List (Option AV)} {st : List AV} {μ : Mem} {post : Option AV → Mem → Prop} (d : decode K.2.1 pc = .ok (.getfield 44, 3)) (ho : K.1.cls = RX1) (kk : AW K (pc + 3) L (.inl (μ 106 0) :: st) μ post) : AW K pc L (.inr (.inr 2) :: st) μ post := z_get (T := TX1) (k := 4) (q := (0, 106)) d ho inK1 (tc_1 84 rfl rfl) rfl rfl (by decide) rfl rfl kk

theorem pfX1_44 {K : MK} {pc : Nat} {L : List (Option AV)} {st : List AV} {μ : Mem} {post : Option AV → Mem → Prop} {z : Int} (d : decode K.2.1 pc = .ok (.putfield 44, 3)) (ho : K.1.cls = RX1) (kk : AW K (pc + 3) L st (wr μ 106 0 z) post) : AW K pc L (.inl z :: .inr (.inr 2) :: st) μ post := z_put (T := TX1) (k := 4) (tg := 0) (id := 106) (v := .inl z) tyX1 d ho inK1 tyX1_ok nmX1 (tc_1 84 rfl rfl) rfl rfl (by decide) rfl rfl (ty := .int) (by decide +kernel) rfl (fun ad => by simp only [cv, fvv, wr_same]) (fun _ => rfl) (fun _ => rfl) (by decide +kernel) (by decide +kernel) kk

theorem gfX4_65 {K : MK} {pc : Nat} {L : List (Option AV)} {st : List AV} {μ : Mem} {post : Option AV → Mem → Prop} (d : decode K.2.1 pc = .ok (.getfield 65, 3)) (ho : K.1.cls = RX4) (kk : AW K (pc + 3) L (.inl (μ 106 0) :: st) μ post) : AW K pc L (.inr (.inr 2) :: st) μ post := z_get (T := TX1) (k := 4) (q := (0, 106)) d ho inK1 (tc_1 85 rfl rfl) rfl rfl (by decide) rfl rfl kk

theorem pfX4_65 {K : MK} {pc : Nat} {L : List (Option AV)} {st : List AV} {μ : Mem} {post : Option AV → Mem → Prop} {z : Int} (d : decode K.2.1 pc = .ok (.putfield 65, 3)) (ho : K.1.cls = RX4) (kk : AW K (pc + 3) L st (wr μ 106 0 z) post) : AW K pc L (.inl z :: .inr (.inr 2) :: st) μ post := z_put (T := TX1) (k := 4) (tg := 0) (id := 106) (v := .inl z) tyX1 d ho inK1 tyX1_ok nmX1 (tc_1 85 rfl rfl) rfl rfl (by decide) rfl rfl (ty := .int) (by decide +kernel) rfl (fun ad => by simp only [cv, fvv, wr_same]) (fun _ => rfl) (fun _ => rfl) (by decide +kernel) (by decide +kernel) kk

theorem gfX1_48 {K : MK} {pc : Nat} {L : List (Option AV)} {st : List AV} {μ : Mem} {post : Option AV → Mem → Prop} (d : decode K.2.1 pc = .ok (.getfield 48, 3)) (ho : K.1.cls = RX1) (kk : AW K (pc + 3) L (.inl (μ 107 0) :: st) μ post) : AW K pc L (.inr (.inr 2) :: st) μ post := z_get (T := TX1) (k := 5) (q := (0, 107)) d ho inK1 (tc_1 86 rfl rfl) rfl rfl (by decide) rfl rfl kk

theorem pfX1_48 {K : MK} {pc : Nat} {L : List (Option AV)} {st : List AV} {μ : Mem} {post : Option AV → Mem → Prop} {z : Int} (d : decode K.2.1 pc = .ok (.putfield 48, 3)) (ho : K.1.cls = RX1) (kk : AW K (pc + 3) L st (wr μ 107 0 z) post) : AW K pc L (.inl z :: .inr (.inr 2) :: st) μ post := z_put (T := TX1) (k := 5) (tg := 0) (id := 107) (v := .inl z) tyX1 d ho inK1 tyX1_ok nmX1 (tc_1 86 rfl rfl) rfl rfl (by decide) rfl rfl (ty := .int) (by decide +kernel) rfl (fun ad => by simp only [cv, fvv, wr_same]) (fun _ => rfl) (fun _ => rfl) (by decide +kernel) (by decide +kernel) kk

theorem gfX2_31 {K : MK} {pc : Nat} {L : List (Option AV)} {st : List AV} {μ : Mem} {post : Option AV → Mem → Prop} (d : decode K.2.1 pc = .ok (.getfield 31, 3)) (ho : K.1.cls = RX2) (kk : AW K (pc + 3) L (.inl (μ 107 0) :: st) μ post) : AW K pc L (.inr (.inr 2) :: st) μ post := z_get (T := TX1) (k := 5) (q := (0, 107)) d ho inK1 (tc_1 87 rfl rfl) rfl rfl (by decide) rfl rfl kk

theorem pfX2_31 {K : MK} {pc : Nat} {L : List (Option AV)} {st : List AV} {μ : Mem} {post : Option AV → Mem → Prop} {z : Int} (d : decode K.2.1 pc = .ok (.putfield 31, 3)) (ho : K.1.cls = RX2) (kk : AW K (pc + 3) L st (wr μ 107 0 z) post) : AW K pc L (.inl z :: .inr (.inr 2) :: st) μ post := z_put (T := TX1) (k := 5) (tg := 0) (id := 107) (v := .inl z) tyX1 d ho inK1 tyX1_ok nmX1 (tc_1 87 rfl rfl) rfl rfl (by decide) rfl rfl (ty := .int) (by decide +kernel) rfl (fun ad => by simp only [cv, fvv, wr_same]) (fun _ => rfl) (fun _ => rfl) (by decide +kernel) (by decide +kernel) kk

theorem gfX4_128 {K : MK} {pc : Nat} {L : List (Option AV)} {st : List AV} {μ : Mem} {post : Option AV → Mem → Prop} (d : decode K.2.1 pc = .ok (.getfield 128, 3)) (ho : K.1.cls = RX4) (kk : AW K (pc + 3) L (.inl (μ 107 0) :: st) μ post) : AW K pc L (.inr (.inr 2) :: st) μ post := z_get (T := TX1) (k := 5) (q := (0, 107)) d ho inK1 (tc_1 88 rfl rfl) rfl rfl (by decide) rfl rfl kk

theorem pfX4_128 {K : MK} {pc : Nat} {L : List (Option AV)} {st : List AV} {μ : Mem} {post : Option AV → Mem → Prop} {z : Int} (d : decode K.2.1 pc = .ok (.putfield 128, 3)) (ho : K.1.cls = RX4) (kk : AW K (pc + 3) L st (wr μ 107 0 z) post) : AW K pc L (.inl z :: .inr (.inr 2) :: st) μ post := z_put (T := TX1) (k := 5) (tg := 0) (id := 107) (v := .inl z) tyX1 d ho inK1 tyX1_ok nmX1 (tc_1 88 rfl rfl) rfl rfl (by decide) rfl rfl (ty := .int) (by decide +kernel) rfl (fun ad => by simp only [cv, fvv, wr_same]) (fun _ => rfl) (fun _ => rfl) (by decide +kernel) (by decide +kernel) kk

theorem gfX0_116 {K : MK} {pc : Nat} {L : List (Option AV)} {st : List AV} {μ : Mem} {post : Option AV → Mem → Prop} (d : decode K.2.1 pc = .ok (.getfield 116, 3)) (ho : K.1.cls = RX0) (kk : AW K (pc + 3) L (.inl (μ 107 0) :: st) μ post) : AW K pc L (.inr (.inr 2) :: st) μ post := z_get (T := TX1) (k := 5) (q := (0, 107)) d ho inK1 (tc_1 89 rfl rfl) rfl rfl (by decide) rfl rfl kk

theorem pfX0_116 {K : MK} {pc : Nat} {L : List (Option AV)} {st : List AV} {μ : Mem} {post : Option AV → Mem → Prop} {z : Int} (d : decode K.2.1 pc = .ok (.putfield 116, 3)) (ho : K.1.cls = RX0) (kk : AW K (pc + 3) L st (wr μ 107 0 z) post) : AW K pc L (.inl z :: .inr (.inr 2) :: st) μ post := z_put (T := TX1) (k := 5) (tg := 0) (id := 107) (v := .inl z) tyX1 d ho inK1 tyX1_ok nmX1 (tc_1 89 rfl rfl) rfl rfl (by decide) rfl rfl (ty := .int) (by decide +kernel) rfl (fun ad => by simp only [cv, fvv, wr_same]) (fun _ => rfl) (fun _ => rfl) (by decide +kernel) (by decide +kernel) kk

theorem gfX8_188 {K : MK} {pc : Nat} {L : List (Option AV)} {st : List AV} {μ : Mem} {post : Option AV → Mem → Prop} (d : decode K.2.1 pc = .ok (.getfield 188, 3)) (ho : K.1.cls = RX8) (kk : AW K (pc + 3) L (.inl (μ 107 0) :: st) μ post) : AW K pc L (.inr (.inr 2) :: st) μ post := z_get (T := TX1) (k := 5) (q := (0, 107)) d ho inK1 (tc_1 90 rfl rfl) rfl rfl (by decide) rfl rfl kk

theorem pfX8_188 {K : MK} {pc : Nat} {L : List (Option AV)} {st : List AV} {μ : Mem} {post : Option AV → Mem → Prop} {z : Int} (d : decode K.2.1 pc = .ok (.putfield 188, 3)) (ho : K.1.cls = RX8) (kk : AW K (pc + 3) L st (wr μ 107 0 z) post) : AW K pc L (.inl z :: .inr (.inr 2) :: st) μ post := z_put (T := TX1) (k := 5) (tg := 0) (id := 107) (v := .inl z) tyX1 d ho inK1 tyX1_ok nmX1 (tc_1 90 rfl rfl) rfl rfl (by decide) rfl rfl (ty := .int) (by decide +kernel) rfl (fun ad => by simp only [cv, fvv, wr_same]) (fun _ => rfl) (fun _ => rfl) (by decide +kernel) (by decide +kernel) kk

theorem gfX2_18 {K : MK} {pc : Nat} {L : List (Option AV)} {st : List AV} {μ : Mem} {post : Option AV → Mem → Prop} (d : decode K.2.1 pc = .ok (.getfield 18, 3)) (ho : K.1.cls = RX2) (kk : AW K (pc + 3) L (.inl (μ 108 0) :: st) μ post) : AW K pc L (.inr (.inr 2) :: st) μ post := z_get (T := TX1) (k := 6) (q := (0, 108)) d ho inK1 (tc_1 91 rfl rfl) rfl rfl (by decide) rfl rfl kk

theorem pfX2_18 {K : MK} {pc : Nat} {L : List (Option AV)} {st : List AV} {μ : Mem} {post : Option AV → Mem → Prop} {z : Int} (d : decode K.2.1 pc = .ok (.putfield 18, 3)) (ho : K.1.cls = RX2) (kk : AW K (pc + 3) L st (wr μ 108 0 z) post) : AW K pc L (.inl z :: .inr (.inr 2) :: st) μ post := z_put (T := TX1) (k := 6) (tg := 0) (id := 108) (v := .inl z) tyX1 d ho inK1 tyX1_ok nmX1 (tc_1 91 rfl rfl) rfl rfl (by decide) rfl rfl (ty := .int) (by decide +kernel) rfl (fun ad => by simp only [cv, fvv, wr_same]) (fun _ => rfl) (fun _ => rfl) (by decide +kernel) (by decide +kernel) kk

theorem gfX1_51 {K : MK} {pc : Nat} {L : List (Option AV)} {st : List AV} {μ : Mem} {post : Option AV → Mem → Prop} (d : decode K.2.1 pc = .ok (.getfield 51, 3)) (ho : K.1.cls = RX1) (kk : AW K (pc + 3) L (.inl (μ 108 0) :: st) μ post) : AW K pc L (.inr (.inr 2) :: st) μ post := z_get (T := TX1) (k := 6) (q := (0, 108)) d ho inK1 (tc_1 92 rfl rfl) rfl rfl (by decide) rfl rfl kk

theorem pfX1_51 {K : MK} {pc : Nat} {L : List (Option AV)} {st : List AV} {μ : Mem} {post : Option AV → Mem → Prop} {z : Int} (d : decode K.2.1 pc = .ok (.putfield 51, 3)) (ho : K.1.cls = RX1) (kk : AW K (pc + 3) L st (wr μ 108 0 z) post) : AW K pc L (.inl z :: .inr (.inr 2) :: st) μ post := z_put (T := TX1) (k := 6) (tg := 0) (id := 108) (v := .inl z) tyX1 d ho inK1 tyX1_ok nmX1 (tc_1 92 rfl rfl) rfl rfl (by decide) rfl rfl (ty := .int) (by decide +kernel) rfl (fun ad => by simp only [cv, fvv, wr_same]) (fun _ => rfl) (fun _ => rfl) (by decide +kernel) (by decide +kernel) kk

theorem gfX4_131 {K : MK} {pc : Nat} {L : List (Option AV)} {st : List AV} {μ : Mem} {post : Option AV → Mem → Prop} (d : decode K.2.1 pc = .ok (.getfield 131, 3)) (ho : K.1.cls = RX4) (kk : AW K (pc + 3) L (.inl (μ 108 0) :: st) μ post) : AW K pc L (.inr (.inr 2) :: st) μ post := z_get (T := TX1) (k := 6) (q := (0, 108)) d ho inK1 (tc_1 93 rfl rfl) rfl rfl (by decide) rfl rfl kk

theorem pfX4_131 {K : MK} {pc : Nat} {L : List (Option AV)} {st : List AV} {μ : Mem} {post : Option AV → Mem → Prop} {z : Int} (d : decode K.2.1 pc = .ok (.putfield 131, 3)) (ho : K.1.cls = RX4) (kk : AW K (pc + 3) L st (wr μ 108 0 z) post) : AW K pc L (.inl z :: .inr (.inr 2) :: st) μ post := z_put (T := TX1) (k := 6) (tg := 0) (id := 108) (v := .inl z) tyX1 d ho inK1 tyX1_ok nmX1 (tc_1 93 rfl rfl) rfl rfl (by decide) rfl rfl (ty := .int) (by decide +kernel) rfl (fun ad => by simp only [cv, fvv, wr_same]) (fun _ => rfl) (fun _ => rfl) (by decide +kernel) (by decide +kernel) kk

theorem gfX0_107 {K : MK} {pc : Nat} {L : List (Option AV)} {st : List AV} {μ : Mem} {post : Option AV → Mem → Prop} (d : decode K.2.1 pc = .ok (.getfield 107, 3)) (ho : K.1.cls = RX0) (kk : AW K (pc + 3) L (.inl (μ 108 0) :: st) μ post) : AW K pc L (.inr (.inr 2) :: st) μ post := z_get (T := TX1) (k := 6) (q := (0, 108)) d ho inK1 (tc_1 94 rfl rfl) rfl rfl (by decide) rfl rfl kk

theorem pfX0_107 {K : MK} {pc : Nat} {L : List (Option AV)} {st : List AV} {μ : Mem} {post : Option AV → Mem → Prop} {z : Int} (d : decode K.2.1 pc = .ok (.putfield 107, 3)) (ho : K.1.cls = RX0) (kk : AW K (pc + 3) L st (wr μ 108 0 z) post) : AW K pc L (.inl z :: .inr (.inr 2) :: st) μ post := z_put (T := TX1) (k := 6) (tg := 0) (id := 108) (v := .inl z) tyX1 d ho inK1 tyX1_ok nmX1 (tc_1 94 rfl rfl) rfl rfl (by decide) rfl rfl (ty := .int) (by decide +kernel) rfl (fun ad => by simp only [cv, fvv, wr_same]) (fun _ => rfl) (fun _ => rfl) (by decide +kernel) (by decide +kernel) kk

theorem gfX8_191 {K : MK} {pc : Nat} {L : List (Option AV)} {st : List AV} {μ : Mem} {post : Option AV → Mem → Prop} (d : decode K.2.1 pc = .ok (.getfield 191, 3)) (ho : K.1.cls = RX8) (kk : AW K (pc + 3) L (.inl (μ 108 0) :: st) μ post) : AW K pc L (.inr (.inr 2) :: st) μ post := z_get (T := TX1) (k := 6) (q := (0, 108)) d ho inK1 (tc_1 95 rfl rfl) rfl rfl (by decide) rfl rfl kk

theorem pfX8_191 {K : MK} {pc : Nat} {L : List (Option AV)} {st : List AV} {μ : Mem} {post : Option AV → Mem → Prop} {z : Int} (d : decode K.2.1 pc = .ok (.putfield 191, 3)) (ho : K.1.cls = RX8) (kk : AW K (pc + 3) L st (wr μ 108 0 z) post) : AW K pc L (.inl z :: .inr (.inr 2) :: st) μ post := z_put (T := TX1) (k := 6) (tg := 0) (id := 108) (v := .inl z) tyX1 d ho inK1 tyX1_ok nmX1 (tc_1 95 rfl rfl) rfl rfl (by decide) rfl rfl (ty := .int) (by decide +kernel) rfl (fun ad => by simp only [cv, fvv, wr_same]) (fun _ => rfl) (fun _ => rfl) (by decide +kernel) (by decide +kernel) kk

theorem gfX2_9 {K : MK} {pc : Nat} {L : List (Option AV)} {st : List AV} {μ : Mem} {post : Option AV → Mem → Prop} (d : decode K.2.1 pc = .ok (.getfield 9, 3)) (ho : K.1.cls = RX2) (kk : AW K (pc + 3) L (.inl (μ 109 0) :: st) μ post) : AW K pc L (.inr (.inr 2) :: st) μ post := z_get (T := TX1) (k := 7) (q := (0, 109)) d ho inK1 (tc_1 96 rfl rfl) rfl rfl (by decide) rfl rfl kk

theorem pfX2_9 {K : MK} {pc : Nat} {L : List (Option AV)} {st : List AV} {μ : Mem} {post : Option AV → Mem → Prop} {z : Int} (d : decode K.2.1 pc = .ok (.putfield 9, 3)) (ho : K.1.cls = RX2) (kk : AW K (pc + 3) L st (wr μ 109 0 z) post) : AW K pc L (.inl z :: .inr (.inr 2) :: st) μ post := z_put (T := TX1) (k := 7) (tg := 0) (id := 109) (v := .inl z) tyX1 d ho inK1 tyX1_ok nmX1 (tc_1 96 rfl rfl) rfl rfl (by decide) rfl rfl (ty := .int) (by decide +kernel) rfl (fun ad => by simp only [cv, fvv, wr_same]) (fun _ => rfl) (fun _ => rfl) (by decide +kernel) (by decide +kernel) kk

theorem gfX1_54 {K : MK} {pc : Nat} {L : List (Option AV)} {st : List AV} {μ : Mem} {post : Option AV → Mem → Prop} (d : decode K.2.1 pc = .ok (.getfield 54, 3)) (ho : K.1.cls = RX1) (kk : AW K (pc + 3) L (.inl (μ 109 0) :: st) μ post) : AW K pc L (.inr (.inr 2) :: st) μ post := z_get (T := TX1) (k := 7) (q := (0, 109)) d ho inK1 (tc_1 97 rfl rfl) rfl rfl (by decide) rfl rfl kk

theorem pfX1_54 {K : MK} {pc : Nat} {L : List (Option AV)} {st : List AV} {μ : Mem} {post : Option AV → Mem → Prop} {z : Int} (d : decode K.2.1 pc = .ok (.putfield 54, 3)) (ho : K.1.cls = RX1) (kk : AW K (pc + 3) L st (wr μ 109 0 z) post) : AW K pc L (.inl z :: .inr (.inr 2) :: st) μ post := z_put (T := TX1) (k := 7) (tg := 0) (id := 109) (v := .inl z) tyX1 d ho inK1 tyX1_ok nmX1 (tc_1 97 rfl rfl) rfl rfl (by decide) rfl rfl (ty := .int) (by decide +kernel) rfl (fun ad => by simp only [cv, fvv, wr_same]) (fun _ => rfl) (fun _ => rfl) (by decide +kernel) (by decide +kernel) kk

theorem gfX0_55 {K : MK} {pc : Nat} {L : List (Option AV)} {st : List AV} {μ : Mem} {post : Option AV → Mem → Prop} (d : decode K.2.1 pc = .ok (.getfield 55, 3)) (ho : K.1.cls = RX0) (kk : AW K (pc + 3) L (.inl (μ 109 0) :: st) μ post) : AW K pc L (.inr (.inr 2) :: st) μ post := z_get (T := TX1) (k := 7) (q := (0, 109)) d ho inK1 (tc_1 98 rfl rfl) rfl rfl (by decide) rfl rfl kk

theorem pfX0_55 {K : MK} {pc : Nat} {L : List (Option AV)} {st : List AV} {μ : Mem} {post : Option AV → Mem → Prop} {z : Int} (d : decode K.2.1 pc = .ok (.putfield 55, 3)) (ho : K.1.cls = RX0) (kk : AW K (pc + 3) L st (wr μ 109 0 z) post) : AW K pc L (.inl z :: .inr (.inr 2) :: st) μ post := z_put (T := TX1) (k := 7) (tg := 0) (id := 109) (v := .inl z) tyX1 d ho inK1 tyX1_ok nmX1 (tc_1 98 rfl rfl) rfl rfl (by decide) rfl rfl (ty := .int) (by decide +kernel) rfl (fun ad => by simp only [cv, fvv, wr_same]) (fun _ => rfl) (fun _ => rfl) (by decide +kernel) (by decide +kernel) kk

theorem gfX4_122 {K : MK} {pc : Nat} {L : List (Option AV)} {st : List AV} {μ : Mem} {post : Option AV → Mem → Prop} (d : decode K.2.1 pc = .ok (.getfield 122, 3)) (ho : K.1.cls = RX4) (kk : AW K (pc + 3) L (.inl (μ 109 0) :: st) μ post) : AW K pc L (.inr (.inr 2) :: st) μ post := z_get (T := TX1) (k := 7) (q := (0, 109)) d ho inK1 (tc_1 99 rfl rfl) rfl rfl (by decide) rfl rfl kk

theorem pfX4_122 {K : MK} {pc : Nat} {L : List (Option AV)} {st : List AV} {μ : Mem} {post : Option AV → Mem → Prop} {z : Int} (d : decode K.2.1 pc = .ok (.putfield 122, 3)) (ho : K.1.cls = RX4) (kk : AW K (pc + 3) L st (wr μ 109 0 z) post) : AW K pc L (.inl z :: .inr (.inr 2) :: st) μ post := z_put (T := TX1) (k := 7) (tg := 0) (id := 109) (v := .inl z) tyX1 d ho inK1 tyX1_ok nmX1 (tc_1 99 rfl rfl) rfl rfl (by decide) rfl rfl (ty := .int) (by decide +kernel) rfl (fun ad => by simp only [cv, fvv, wr_same]) (fun _ => rfl) (fun _ => rfl) (by decide +kernel) (by decide +kernel) kk

theorem gfX1_57 {K : MK} {pc : Nat} {L : List (Option AV)} {st : List AV} {μ : Mem} {post : Option AV → Mem → Prop} (d : decode K.2.1 pc = .ok (.getfield 57, 3)) (ho : K.1.cls = RX1) (kk : AW K (pc + 3) L (.inl (μ 110 0) :: st) μ post) : AW K pc L (.inr (.inr 2) :: st) μ post := z_get (T := TX1) (k := 8) (q := (0, 110)) d ho inK1 (tc_1 100 rfl rfl) rfl rfl (by decide) rfl rfl kk

theorem pfX1_57 {K : MK} {pc : Nat} {L : List (Option AV)} {st : List AV} {μ : Mem} {post : Option AV → Mem → Prop} {z : Int} (d : decode K.2.1 pc = .ok (.putfield 57, 3)) (ho : K.1.cls = RX1) (kk : AW K (pc + 3) L st (wr μ 110 0 z) post) : AW K pc L (.inl z :: .inr (.inr 2) :: st) μ post := z_put (T := TX1) (k := 8) (tg := 0) (id := 110) (v := .inl z) tyX1 d ho inK1 tyX1_ok nmX1 (tc_1 100 rfl rfl) rfl rfl (by decide) rfl rfl (ty := .int) (by decide +kernel) rfl (fun ad => by simp only [cv, fvv, wr_same]) (fun _ => rfl) (fun _ => rfl) (by decide +kernel) (by decide +kernel) kk

theorem gfX4_125 {K : MK} {pc : Nat} {L : List (Option AV)} {st : List AV} {μ : Mem} {post : Option AV → Mem → Prop} (d : decode K.2.1 pc = .ok (.getfield 125, 3)) (ho : K.1.cls = RX4) (kk : AW K (pc + 3) L (.inl (μ 110 0) :: st) μ post) : AW K pc L (.inr (.inr 2) :: st) μ post := z_get (T := TX1) (k := 8) (q := (0, 110)) d ho inK1 (tc_1 101 rfl rfl) rfl rfl (by decide) rfl rfl kk

theorem pfX4_125 {K : MK} {pc : Nat} {L : List (Option AV)} {st : List AV} {μ : Mem} {post : Option AV → Mem → Prop} {z : Int} (d : decode K.2.1 pc = .ok (.putfield 125, 3)) (ho : K.1.cls = RX4) (kk : AW K (pc + 3) L st (wr μ 110 0 z) post) : AW K pc L (.inl z :: .inr (.inr 2) :: st) μ post := z_put (T := TX1) (k := 8) (tg := 0) (id := 110) (v := .inl z) tyX1 d ho inK1 tyX1_ok nmX1 (tc_1 101 rfl rfl) rfl rfl (by decide) rfl rfl (ty := .int) (by decide +kernel) rfl (fun ad => by simp only [cv, fvv, wr_same]) (fun _ => rfl) (fun _ => rfl) (by decide +kernel) (by decide +kernel) kk

theorem gfX1_9 {K : MK} {pc : Nat} {L : List (Option AV)} {st : List AV} {μ : Mem} {post : Option AV → Mem → Prop} (d : decode K.2.1 pc = .ok (.getfield 9, 3)) (ho : K.1.cls = RX1) (kk : AW K (pc + 3) L (.inr (.inr 17) :: st) μ post) : AW K pc L (.inr (.inr 2) :: st) μ post := z_get (T := TX1) (k := 9) (q := (2, 17)) d ho inK1 (tc_1 102 rfl rfl) rfl rfl (by decide) rfl rfl kk

theorem gfX0_43 {K : MK} {pc : Nat} {L : List (Option AV)} {st : List AV} {μ : Mem} {post : Option AV → Mem → Prop} (d : decode K.2.1 pc = .ok (.getfield 43, 3)) (ho : K.1.cls = RX0) (kk : AW K (pc + 3) L (.inr (.inr 17) :: st) μ post) : AW K pc L (.inr (.inr 2) :: st) μ post := z_get (T := TX1) (k := 9) (q := (2, 17)) d ho inK1 (tc_1 103 rfl rfl) rfl rfl (by decide) rfl rfl kk

theorem gfX1_15 {K : MK} {pc : Nat} {L : List (Option AV)} {st : List AV} {μ : Mem} {post : Option AV → Mem → Prop} (d : decode K.2.1 pc = .ok (.getfield 15, 3)) (ho : K.1.cls = RX1) (kk : AW K (pc + 3) L (.inr (.inr 18) :: st) μ post) : AW K pc L (.inr (.inr 2) :: st) μ post := z_get (T := TX1) (k := 10) (q := (2, 18)) d ho inK1 (tc_1 104 rfl rfl) rfl rfl (by decide) rfl rfl kk

theorem gfX4_107 {K : MK} {pc : Nat} {L : List (Option AV)} {st : List AV} {μ : Mem} {post : Option AV → Mem → Prop} (d : decode K.2.1 pc = .ok (.getfield 107, 3)) (ho : K.1.cls = RX4) (kk : AW K (pc + 3) L (.inr (.inr 18) :: st) μ post) : AW K pc L (.inr (.inr 2) :: st) μ post := z_get (T := TX1) (k := 10) (q := (2, 18)) d ho inK1 (tc_1 105 rfl rfl) rfl rfl (by decide) rfl rfl kk

theorem gfX1_18 {K : MK} {pc : Nat} {L : List (Option AV)} {st : List AV} {μ : Mem} {post : Option AV → Mem → Prop} (d : decode K.2.1 pc = .ok (.getfield 18, 3)) (ho : K.1.cls = RX1) (kk : AW K (pc + 3) L (.inr (.inr 19) :: st) μ post) : AW K pc L (.inr (.inr 2) :: st) μ post := z_get (T := TX1) (k := 11) (q := (2, 19)) d ho inK1 (tc_1 106 rfl rfl) rfl rfl (by decide) rfl rfl kk

theorem gfX4_44 {K : MK} {pc : Nat} {L : List (Option AV)} {st : List AV} {μ : Mem} {post : Option AV → Mem → Prop} (d : decode K.2.1 pc = .ok (.getfield 44, 3)) (ho : K.1.cls = RX4) (kk : AW K (pc + 3) L (.inr (.inr 19) :: st) μ post) : AW K pc L (.inr (.inr 2) :: st) μ post := z_get (T := TX1) (k := 11) (q := (2, 19)) d ho inK1 (tc_1 107 rfl rfl) rfl rfl (by decide) rfl rfl kk

theorem gfX0_78 {K : MK} {pc : Nat} {L : List (Option AV)} {st : List AV} {μ : Mem} {post : Option AV → Mem → Prop} (d : decode K.2.1 pc = .ok (.getfield 78, 3)) (ho : K.1.cls = RX0) (kk : AW K (pc + 3) L (.inr (.inr 19) :: st) μ post) : AW K pc L (.inr (.inr 2) :: st) μ post := z_get (T := TX1) (k := 11) (q := (2, 19)) d ho inK1 (tc_1 108 rfl rfl) rfl rfl (by decide) rfl rfl kk

theorem gfX1_21 {K : MK} {pc : Nat} {L : List (Option AV)} {st : List AV} {μ : Mem} {post : Option AV → Mem → Prop} (d : decode K.2.1 pc = .ok (.getfield 21, 3)) (ho : K.1.cls = RX1) (kk : AW K (pc + 3) L (.inr (.inr 20) :: st) μ post) : AW K pc L (.inr (.inr 2) :: st) μ post := z_get (T := TX1) (k := 12) (q := (2, 20)) d ho inK1 (tc_1 109 rfl rfl) rfl rfl (by decide) rfl rfl kk

theorem gfX4_47 {K : MK} {pc : Nat} {L : List (Option AV)} {st : List AV} {μ : Mem} {post : Option AV → Mem → Prop} (d : decode K.2.1 pc = .ok (.getfield 47, 3)) (ho : K.1.cls = RX4) (kk : AW K (pc + 3) L (.inr (.inr 20) :: st) μ post) : AW K pc L (.inr (.inr 2) :: st) μ post := z_get (T := TX1) (k := 12) (q := (2, 20)) d ho inK1 (tc_1 110 rfl rfl) rfl rfl (by decide) rfl rfl kk

theorem gfX0_81 {K : MK} {pc : Nat} {L : List (Option AV)} {st : List AV} {μ : Mem} {post : Option AV → Mem → Prop} (d : decode K.2.1 pc = .ok (.getfield 81, 3)) (ho : K.1.cls = RX0) (kk : AW K (pc + 3) L (.inr (.inr 20) :: st) μ post) : AW K pc L (.inr (.inr 2) :: st) μ post := z_get (T := TX1) (k := 12) (q := (2, 20)) d ho inK1 (tc_1 111 rfl rfl) rfl rfl (by decide) rfl rfl kk

theorem gfX0_27 {K : MK} {pc : Nat} {L : List (Option AV)} {st : List AV} {μ : Mem} {post : Option AV → Mem → Prop} (d : decode K.2.1 pc = .ok (.getfield 27, 3)) (ho : K.1.cls = RX0) (kk : AW K (pc + 3) L (.inr (.inr 2) :: st) μ post) : AW K pc L (.inr (.inr 3) :: st) μ post := z_get (T := TX0) (k := 0) (q := (2, 2)) d ho inK0 (tc_1 145 rfl rfl) rfl rfl (by decide) rfl rfl kk

theorem gfX0_9 {K : MK} {pc : Nat} {L : List (Option AV)} {st : List AV} {μ : Mem} {post : Option AV → Mem → Prop} (d : decode K.2.1 pc = .ok (.getfield 9, 3)) (ho : K.1.cls = RX0) (kk : AW K (pc + 3) L (.inr (.inr 21) :: st) μ post) : AW K pc L (.inr (.inr 3) :: st) μ post := z_get (T := TX0) (k := 1) (q := (2, 21)) d ho inK0 (tc_1 146 rfl rfl) rfl rfl (by decide) rfl rfl kk

theorem gfX0_15 {K : MK} {pc : Nat} {L : List (Option AV)} {st : List AV} {μ : Mem} {post : Option AV → Mem → Prop} (d : decode K.2.1 pc = .ok (.getfield 15, 3)) (ho : K.1.cls = RX0) (kk : AW K (pc + 3) L (.inr (.inr 22) :: st) μ post) : AW K pc L (.inr (.inr 3) :: st) μ post := z_get (T := TX0) (k := 2) (q := (2, 22)) d ho inK0 (tc_1 147 rfl rfl) rfl rfl (by decide) rfl rfl kk

theorem gfX0_18 {K : MK} {pc : Nat} {L : List (Option AV)} {st : List AV} {μ : Mem} {post : Option AV → Mem → Prop} (d : decode K.2.1 pc = .ok (.getfield 18, 3)) (ho : K.1.cls = RX0) (kk : AW K (pc + 3) L (.inr (.inr 23) :: st) μ post) : AW K pc L (.inr (.inr 3) :: st) μ post := z_get (T := TX0) (k := 3) (q := (2, 23)) d ho inK0 (tc_1 148 rfl rfl) rfl rfl (by decide) rfl rfl kk

theorem gfX0_21 {K : MK} {pc : Nat} {L : List (Option AV)} {st : List AV} {μ : Mem} {post : Option AV → Mem → Prop} (d : decode K.2.1 pc = .ok (.getfield 21, 3)) (ho : K.1.cls = RX0) (kk : AW K (pc + 3) L (.inr (.inr 24) :: st) μ post) : AW K pc L (.inr (.inr 3) :: st) μ post := z_get (T := TX0) (k := 4) (q := (2, 24)) d ho inK0 (tc_1 149 rfl rfl) rfl rfl (by decide) rfl rfl kk

theorem gfX0_112 {K : MK} {pc : Nat} {L : List (Option AV)} {st : List AV} {μ : Mem} {post : Option AV → Mem → Prop} (d : decode K.2.1 pc = .ok (.getfield 112, 3)) (ho : K.1.cls = RX0) (kk : AW K (pc + 3) L (.inr (.inl (μ 111 0)) :: st) μ post) : AW K pc L (.inr (.inr 3) :: st) μ post := z_get (T := TX0) (k := 5) (q := (1, 111)) d ho inK0 (tc_1 150 rfl rfl) rfl rfl (by decide) rfl rfl kk

theorem pfX0_112 {K : MK} {pc : Nat} {L : List (Option AV)} {st : List AV} {μ : Mem} {post : Option AV → Mem → Prop} {z : Int} (d : decode K.2.1 pc = .ok (.putfield 112, 3)) (ho : K.1.cls = RX0) (kk : AW K (pc + 3) L st (wr μ 111 0 z) post) : AW K pc L (.inr (.inl z) :: .inr (.inr 3) :: st) μ post := z_put (T := TX0) (k := 5) (tg := 1) (id := 111) (v := .inr (.inl z)) tyX0 d ho inK0 tyX0_ok nmX0 (tc_1 150 rfl rfl) rfl rfl (by decide) rfl rfl (ty := .long) (by decide +kernel) rfl (fun ad => by simp only [cv, fvv, wr_same]) (fun _ => rfl) (fun _ => rfl) (by decide +kernel) (by decide +kernel) kk

theorem gfX0_24 {K : MK} {pc : Nat} {L : List (Option AV)} {st : List AV} {μ : Mem} {post : Option AV → Mem → Prop} (d : decode K.2.1 pc = .ok (.getfield 24, 3)) (ho : K.1.cls = RX0) (kk : AW K (pc + 3) L (.inr (.inr 25) :: st) μ post) : AW K pc L (.inr (.inr 3) :: st) μ post := z_get (T := TX0) (k := 6) (q := (2, 25)) d ho inK0 (tc_1 151 rfl rfl) rfl rfl (by decide) rfl rfl kk

theorem gfX4_114 {K : MK} {pc : Nat} {L : List (Option AV)} {st : List AV} {μ : Mem} {post : Option AV → Mem → Prop} (d : decode K.2.1 pc = .ok (.getfield 114, 3)) (ho : K.1.cls = RX4) (kk : AW K (pc + 3) L (.inr (.inr 25) :: st) μ post) : AW K pc L (.inr (.inr 3) :: st) μ post := z_get (T := TX0) (k := 6) (q := (2, 25)) d ho inK0 (tc_1 152 rfl rfl) rfl rfl (by decide) rfl rfl kk

theorem gfX8_346 {K : MK} {pc : Nat} {L : List (Option AV)} {st : List AV} {μ : Mem} {post : Option AV → Mem → Prop} (d : decode K.2.1 pc = .ok (.getfield 346, 3)) (ho : K.1.cls = RX8) (kk : AW K (pc + 3) L (.inr (.inr 25) :: st) μ post) : AW K pc L (.inr (.inr 3) :: st) μ post := z_get (T := TX0) (k := 6) (q := (2, 25)) d ho inK0 (tc_1 153 rfl rfl) rfl rfl (by decide) rfl rfl kk

theorem gfX4_27 {K : MK} {pc : Nat} {L : List (Option AV)} {st : List AV} {μ : Mem} {post : Option AV → Mem → Prop} (d : decode K.2.1 pc = .ok (.getfield 27, 3)) (ho : K.1.cls = RX4) (kk : AW K (pc + 3) L (.inr (.inr 2) :: st) μ post) : AW K pc L (.inr (.inr 4) :: st) μ post := z_get (T := TX4) (k := 0) (q := (2, 2)) d ho inK4 (tc_1 176 rfl rfl) rfl rfl (by decide) rfl rfl kk

theorem gfX4_31 {K : MK} {pc : Nat} {L : List (Option AV)} {st : List AV} {μ : Mem} {post : Option AV → Mem → Prop} (d : decode K.2.1 pc = .ok (.getfield 31, 3)) (ho : K.1.cls = RX4) (kk : AW K (pc + 3) L (.inr (.inr 3) :: st) μ post) : AW K pc L (.inr (.inr 4) :: st) μ post := z_get (T := TX4) (k := 1) (q := (2, 3)) d ho inK4 (tc_1 177 rfl rfl) rfl rfl (by decide) rfl rfl kk

theorem gfX4_57 {K : MK} {pc : Nat} {L : List (Option AV)} {st : List AV} {μ : Mem} {post : Option AV → Mem → Prop} (d : decode K.2.1 pc = .ok (.getfield 57, 3)) (ho : K.1.cls = RX4) (kk : AW K (pc + 3) L (.inr (.inl (μ 112 0)) :: st) μ post) : AW K pc L (.inr (.inr 4) :: st) μ post := z_get (T := TX4) (k := 2) (q := (1, 112)) d ho inK4 (tc_1 178 rfl rfl) rfl rfl (by decide) rfl rfl kk

theorem pfX4_57 {K : MK} {pc : Nat} {L : List (Option AV)} {st : List AV} {μ : Mem} {post : Option AV → Mem → Prop} {z : Int} (d : decode K.2.1 pc = .ok (.putfield 57, 3)) (ho : K.1.cls = RX4) (kk : AW K (pc + 3) L st (wr μ 112 0 z) post) : AW K pc L (.inr (.inl z) :: .inr (.inr 4) :: st) μ post := z_put (T := TX4) (k := 2) (tg := 1) (id := 112) (v := .inr (.inl z)) tyX4 d ho inK4 tyX4_ok nmX4 (tc_1 178 rfl rfl) rfl rfl (by decide) rfl rfl (ty := .long) (by decide +kernel) rfl (fun ad => by simp only [cv, fvv, wr_same]) (fun _ => rfl) (fun _ => rfl) (by decide +kernel) (by decide +kernel) kk

theorem gfX8_162 {K : MK} {pc : Nat} {L : List (Option AV)} {st : List AV} {μ : Mem} {post : Option AV → Mem → Prop} (d : decode K.2.1 pc = .ok (.getfield 162, 3)) (ho : K.1.cls = RX8) (kk : AW K (pc + 3) L (.inr (.inl (μ 112 0)) :: st) μ post) : AW K pc L (.inr (.inr 4) :: st) μ post := z_get (T := TX4) (k := 2) (q := (1, 112)) d ho inK4 (tc_1 179 rfl rfl) rfl rfl (by decide) rfl rfl kk

theorem pfX8_162 {K : MK} {pc : Nat} {L : List (Option AV)} {st : List AV} {μ : Mem} {post : Option AV → Mem → Prop} {z : Int} (d : decode K.2.1 pc = .ok (.putfield 162, 3)) (ho : K.1.cls = RX8) (kk : AW K (pc + 3) L st (wr μ 112 0 z) post) : AW K pc L (.inr (.inl z) :: .inr (.inr 4) :: st) μ post := z_put (T := TX4) (k := 2) (tg := 1) (id := 112) (v := .inr (.inl z)) tyX4 d ho inK4 tyX4_ok nmX4 (tc_1 179 rfl rfl) rfl rfl (by decide) rfl rfl (ty := .long) (by decide +kernel) rfl (fun ad => by simp only [cv, fvv, wr_same]) (fun _ => rfl) (fun _ => rfl) (by decide +kernel) (by decide +kernel) kk

theorem gfX4_82 {K : MK} {pc : Nat} {L : List (Option AV)} {st : List AV} {μ : Mem} {post : Option AV → Mem → Prop} (d : decode K.2.1 pc = .ok (.getfield 82, 3)) (ho : K.1.cls = RX4) (kk : AW K (pc + 3) L (.inl (μ 113 0) :: st) μ post) : AW K pc L (.inr (.inr 4) :: st) μ post := z_get (T := TX4) (k := 3) (q := (0, 113)) d ho inK4 (tc_1 180 rfl rfl) rfl rfl (by decide) rfl rfl kk

theorem pfX4_82 {K : MK} {pc : Nat} {L : List (Option AV)} {st : List AV} {μ : Mem} {post : Option AV → Mem → Prop} {z : Int} (d : decode K.2.1 pc = .ok (.putfield 82, 3)) (ho : K.1.cls = RX4) (kk : AW K (pc + 3) L st (wr μ 113 0 z) post) : AW K pc L (.inl z :: .inr (.inr 4) :: st) μ post := z_put (T := TX4) (k := 3) (tg := 0) (id := 113) (v := .inl z) tyX4 d ho inK4 tyX4_ok nmX4 (tc_1 180 rfl rfl) rfl rfl (by decide) rfl rfl (ty := .int) (by decide +kernel) rfl (fun ad => by simp only [cv, fvv, wr_same]) (fun _ => rfl) (fun _ => rfl) (by decide +kernel) (by decide +kernel) kk

theorem gfX8_156 {K : MK} {pc : Nat} {L : List (Option AV)} {st : List AV} {μ : Mem} {post : Option AV → Mem → Prop} (d : decode K.2.1 pc = .ok (.getfield 156, 3)) (ho : K.1.cls = RX8) (kk : AW K (pc + 3) L (.inl (μ 113 0) :: st) μ post) : AW K pc L (.inr (.inr 4) :: st) μ post := z_get (T := TX4) (k := 3) (q := (0, 113)) d ho inK4 (tc_1 181 rfl rfl) rfl rfl (by decide) rfl rfl kk

theorem pfX8_156 {K : MK} {pc : Nat} {L : List (Option AV)} {st : List AV} {μ : Mem} {post : Option AV → Mem → Prop} {z : Int} (d : decode K.2.1 pc = .ok (.putfield 156, 3)) (ho : K.1.cls = RX8) (kk : AW K (pc + 3) L st (wr μ 113 0 z) post) : AW K pc L (.inl z :: .inr (.inr 4) :: st) μ post := z_put (T := TX4) (k := 3) (tg := 0) (id := 113) (v := .inl z) tyX4 d ho inK4 tyX4_ok nmX4 (tc_1 181 rfl rfl) rfl rfl (by decide) rfl rfl (ty := .int) (by decide +kernel) rfl (fun ad => by simp only [cv, fvv, wr_same]) (fun _ => rfl) (fun _ => rfl) (by decide +kernel) (by decide +kernel) kk

theorem gfX4_85 {K : MK} {pc : Nat} {L : List (Option AV)} {st : List AV} {μ : Mem} {post : Option AV → Mem → Prop} (d : decode K.2.1 pc = .ok (.getfield 85, 3)) (ho : K.1.cls = RX4) (kk : AW K (pc + 3) L (.inl (μ 114 0) :: st) μ post) : AW K pc L (.inr (.inr 4) :: st) μ post := z_get (T := TX4) (k := 4) (q := (0, 114)) d ho inK4 (tc_1 182 rfl rfl) rfl rfl (by decide) rfl rfl kk

theorem pfX4_85 {K : MK} {pc : Nat} {L : List (Option AV)} {st : List AV} {μ : Mem} {post : Option AV → Mem → Prop} {z : Int} (d : decode K.2.1 pc = .ok (.putfield 85, 3)) (ho : K.1.cls = RX4) (kk : AW K (pc + 3) L st (wr μ 114 0 z) post) : AW K pc L (.inl z :: .inr (.inr 4) :: st) μ post := z_put (T := TX4) (k := 4) (tg := 0) (id := 114) (v := .inl z) tyX4 d ho inK4 tyX4_ok nmX4 (tc_1 182 rfl rfl) rfl rfl (by decide) rfl rfl (ty := .int) (by decide +kernel) rfl (fun ad => by simp only [cv, fvv, wr_same]) (fun _ => rfl) (fun _ => rfl) (by decide +kernel) (by decide +kernel) kk

theorem gfX8_159 {K : MK} {pc : Nat} {L : List (Option AV)} {st : List AV} {μ : Mem} {post : Option AV → Mem → Prop} (d : decode K.2.1 pc = .ok (.getfield 159, 3)) (ho : K.1.cls = RX8) (kk : AW K (pc + 3) L (.inl (μ 114 0) :: st) μ post) : AW K pc L (.inr (.inr 4) :: st) μ post := z_get (T := TX4) (k := 4) (q := (0, 114)) d ho inK4 (tc_1 183 rfl rfl) rfl rfl (by decide) rfl rfl kk

theorem pfX8_159 {K : MK} {pc : Nat} {L : List (Option AV)} {st : List AV} {μ : Mem} {post : Option AV → Mem → Prop} {z : Int} (d : decode K.2.1 pc = .ok (.putfield 159, 3)) (ho : K.1.cls = RX8) (kk : AW K (pc + 3) L st (wr μ 114 0 z) post) : AW K pc L (.inl z :: .inr (.inr 4) :: st) μ post := z_put (T := TX4) (k := 4) (tg := 0) (id := 114) (v := .inl z) tyX4 d ho inK4 tyX4_ok nmX4 (tc_1 183 rfl rfl) rfl rfl (by decide) rfl rfl (ty := .int) (by decide +kernel) rfl (fun ad => by simp only [cv, fvv, wr_same]) (fun _ => rfl) (fun _ => rfl) (by decide +kernel) (by decide +kernel) kk

theorem gfX4_88 {K : MK} {pc : Nat} {L : List (Option AV)} {st : List AV} {μ : Mem} {post : Option AV → Mem → Prop} (d : decode K.2.1 pc = .ok (.getfield 88, 3)) (ho : K.1.cls = RX4) (kk : AW K (pc + 3) L (.inl (μ 115 0) :: st) μ post) : AW K pc L (.inr (.inr 4) :: st) μ post := z_get (T := TX4) (k := 5) (q := (0, 115)) d ho inK4 (tc_1 184 rfl rfl) rfl rfl (by decide) rfl rfl kk

theorem pfX4_88 {K : MK} {pc : Nat} {L : List (Option AV)} {st : List AV} {μ : Mem} {post : Option AV → Mem → Prop} {z : Int} (d : decode K.2.1 pc = .ok (.putfield 88, 3)) (ho : K.1.cls = RX4) (kk : AW K (pc + 3) L st (wr μ 115 0 z) post) : AW K pc L (.inl z :: .inr (.inr 4) :: st) μ post := z_put (T := TX4) (k := 5) (tg := 0) (id := 115) (v := .inl z) tyX4 d ho inK4 tyX4_ok nmX4 (tc_1 184 rfl rfl) rfl rfl (by decide) rfl rfl (ty := .int) (by decide +kernel) rfl (fun ad => by simp only [cv, fvv, wr_same]) (fun _ => rfl) (fun _ => rfl) (by decide +kernel) (by decide +kernel) kk

theorem gfX8_353 {K : MK} {pc : Nat} {L : List (Option AV)} {st : List AV} {μ : Mem} {post : Option AV → Mem → Prop} (d : decode K.2.1 pc = .ok (.getfield 353, 3)) (ho : K.1.cls = RX8) (kk : AW K (pc + 3) L (.inl (μ 115 0) :: st) μ post) : AW K pc L (.inr (.inr 4) :: st) μ post := z_get (T := TX4) (k := 5) (q := (0, 115)) d ho inK4 (tc_1 185 rfl rfl) rfl rfl (by decide) rfl rfl kk

theorem pfX8_353 {K : MK} {pc : Nat} {L : List (Option AV)} {st : List AV} {μ : Mem} {post : Option AV → Mem → Prop} {z : Int} (d : decode K.2.1 pc = .ok (.putfield 353, 3)) (ho : K.1.cls = RX8) (kk : AW K (pc + 3) L st (wr μ 115 0 z) post) : AW K pc L (.inl z :: .inr (.inr 4) :: st) μ post := z_put (T := TX4) (k := 5) (tg := 0) (id := 115) (v := .inl z) tyX4 d ho inK4 tyX4_ok nmX4 (tc_1 185 rfl rfl) rfl rfl (by decide) rfl rfl (ty := .int) (by decide +kernel) rfl (fun ad => by simp only [cv, fvv, wr_same]) (fun _ => rfl) (fun _ => rfl) (by decide +kernel) (by decide +kernel) kk

theorem gfX4_9 {K : MK} {pc : Nat} {L : List (Option AV)} {st : List AV} {μ : Mem} {post : Option AV → Mem → Prop} (d : decode K.2.1 pc = .ok (.getfield 9, 3)) (ho : K.1.cls = RX4) (kk : AW K (pc + 3) L (.inr (.inr 26) :: st) μ post) : AW K pc L (.inr (.inr 4) :: st) μ post := z_get (T := TX4) (k := 6) (q := (2, 26)) d ho inK4 (tc_1 186 rfl rfl) rfl rfl (by decide) rfl rfl kk

theorem gfX8_356 {K : MK} {pc : Nat} {L : List (Option AV)} {st : List AV} {μ : Mem} {post : Option AV → Mem → Prop} (d : decode K.2.1 pc = .ok (.getfield 356, 3)) (ho : K.1.cls = RX8) (kk : AW K (pc + 3) L (.inr (.inr 26) :: st) μ post) : AW K pc L (.inr (.inr 4) :: st) μ post := z_get (T := TX4) (k := 6) (q := (2, 26)) d ho inK4 (tc_1 187 rfl rfl) rfl rfl (by decide) rfl rfl kk

theorem gfX4_15 {K : MK} {pc : Nat} {L : List (Option AV)} {st : List AV} {μ : Mem} {post : Option AV → Mem → Prop} (d : decode K.2.1 pc = .ok (.getfield 15, 3)) (ho : K.1.cls = RX4) (kk : AW K (pc + 3) L (.inr (.inr 27) :: st) μ post) : AW K pc L (.inr (.inr 4) :: st) μ post := z_get (T := TX4) (k := 7) (q := (2, 27)) d ho inK4 (tc_1 188 rfl rfl) rfl rfl (by decide) rfl rfl kk

theorem gfX8_359 {K : MK} {pc : Nat} {L : List (Option AV)} {st : List AV} {μ : Mem} {post : Option AV → Mem → Prop} (d : decode K.2.1 pc = .ok (.getfield 359, 3)) (ho : K.1.cls = RX8) (kk : AW K (pc + 3) L (.inr (.inr 27) :: st) μ post) : AW K pc L (.inr (.inr 4) :: st) μ post := z_get (T := TX4) (k := 7) (q := (2, 27)) d ho inK4 (tc_1 189 rfl rfl) rfl rfl (by decide) rfl rfl kk

theorem gfX4_18 {K : MK} {pc : Nat} {L : List (Option AV)} {st : List AV} {μ : Mem} {post : Option AV → Mem → Prop} (d : decode K.2.1 pc = .ok (.getfield 18, 3)) (ho : K.1.cls = RX4) (kk : AW K (pc + 3) L (.inr (.inr 28) :: st) μ post) : AW K pc L (.inr (.inr 4) :: st) μ post := z_get (T := TX4) (k := 8) (q := (2, 28)) d ho inK4 (tc_1 190 rfl rfl) rfl rfl (by decide) rfl rfl kk

theorem gfX8_175 {K : MK} {pc : Nat} {L : List (Option AV)} {st : List AV} {μ : Mem} {post : Option AV → Mem → Prop} (d : decode K.2.1 pc = .ok (.getfield 175, 3)) (ho : K.1.cls = RX8) (kk : AW K (pc + 3) L (.inr (.inr 28) :: st) μ post) : AW K pc L (.inr (.inr 4) :: st) μ post := z_get (T := TX4) (k := 8) (q := (2, 28)) d ho inK4 (tc_1 191 rfl rfl) rfl rfl (by decide) rfl rfl kk

theorem gfX4_21 {K : MK} {pc : Nat} {L : List (Option AV)} {st : List AV} {μ : Mem} {post : Option AV → Mem → Prop} (d : decode K.2.1 pc = .ok (.getfield 21, 3)) (ho : K.1.cls = RX4) (kk : AW K (pc + 3) L (.inr (.inr 29) :: st) μ post) : AW K pc L (.inr (.inr 4) :: st) μ post := z_get (T := TX4) (k := 9) (q := (2, 29)) d ho inK4 (tc_1 192 rfl rfl) rfl rfl (by decide) rfl rfl kk

theorem gfX4_24 {K : MK} {pc : Nat} {L : List (Option AV)} {st : List AV} {μ : Mem} {post : Option AV → Mem → Prop} (d : decode K.2.1 pc = .ok (.getfield 24, 3)) (ho : K.1.cls = RX4) (kk : AW K (pc + 3) L (.inr (.inr 30) :: st) μ post) : AW K pc L (.inr (.inr 4) :: st) μ post := z_get (T := TX4) (k := 10) (q := (2, 30)) d ho inK4 (tc_1 193 rfl rfl) rfl rfl (by decide) rfl rfl kk

theorem gfX2_57 {K : MK} {pc : Nat} {L : List (Option AV)} {st : List AV} {μ : Mem} {post : Option AV → Mem → Prop} (d : decode K.2.1 pc = .ok (.getfield 57, 3)) (ho : K.1.cls = RX2) (kk : AW K (pc + 3) L (.inl (μ 116 0) :: st) μ post) : AW K pc L (.inr (.inr 5) :: st) μ post := z_get (T := TX2) (k := 0) (q := (0, 116)) d ho inK2 (tc_1 223 rfl rfl) rfl rfl (by decide) rfl rfl kk

theorem pfX2_57 {K : MK} {pc : Nat} {L : List (Option AV)} {st : List AV} {μ : Mem} {post : Option AV → Mem → Prop} {z : Int} (d : decode K.2.1 pc = .ok (.putfield 57, 3)) (ho : K.1.cls = RX2) (kk : AW K (pc + 3) L st (wr μ 116 0 z) post) : AW K pc L (.inl z :: .inr (.inr 5) :: st) μ post := z_put (T := TX2) (k := 0) (tg := 0) (id := 116) (v := .inl z) tyX2 d ho inK2 tyX2_ok nmX2 (tc_1 223 rfl rfl) rfl rfl (by decide) rfl rfl (ty := .int) (by decide +kernel) rfl (fun ad => by simp only [cv, fvv, wr_same]) (fun _ => rfl) (fun _ => rfl) (by decide +kernel) (by decide +kernel) kk

theorem gfX8_224 {K : MK} {pc : Nat} {L : List (Option AV)} {st : List AV} {μ : Mem} {post : Option AV → Mem → Prop} (d : decode K.2.1 pc = .ok (.getfield 224, 3)) (ho : K.1.cls = RX8) (kk : AW K (pc + 3) L (.inl (μ 116 0) :: st) μ post) : AW K pc L (.inr (.inr 5) :: st) μ post := z_get (T := TX2) (k := 0) (q := (0, 116)) d ho inK2 (tc_1 224 rfl rfl) rfl rfl (by decide) rfl rfl kk

theorem pfX8_224 {K : MK} {pc : Nat} {L : List (Option AV)} {st : List AV} {μ : Mem} {post : Option AV → Mem → Prop} {z : Int} (d : decode K.2.1 pc = .ok (.putfield 224, 3)) (ho : K.1.cls = RX8) (kk : AW K (pc + 3) L st (wr μ 116 0 z) post) : AW K pc L (.inl z :: .inr (.inr 5) :: st) μ post := z_put (T := TX2) (k := 0) (tg := 0) (id := 116) (v := .inl z) tyX2 d ho inK2 tyX2_ok nmX2 (tc_1 224 rfl rfl) rfl rfl (by decide) rfl rfl (ty := .int) (by decide +kernel) rfl (fun ad => by simp only [cv, fvv, wr_same]) (fun _ => rfl) (fun _ => rfl) (by decide +kernel) (by decide +kernel) kk

theorem gfX6_23 {K : MK} {pc : Nat} {L : List (Option AV)} {st : List AV} {μ : Mem} {post : Option AV → Mem → Prop} (d : decode K.2.1 pc = .ok (.getfield 23, 3)) (ho : K.1.cls = RX6) (kk : AW K (pc + 3) L (.inr (.inl (μ 117 0)) :: st) μ post) : AW K pc L (.inr (.inr 6) :: st) μ post := z_get (T := TX6) (k := 0) (q := (1, 117)) d ho inK6 (tc_1 234 rfl rfl) rfl rfl (by decide) rfl rfl kk

theorem pfX6_23 {K : MK} {pc : Nat} {L : List (Option AV)} {st : List AV} {μ : Mem} {post : Option AV → Mem → Prop} {z : Int} (d : decode K.2.1 pc = .ok (.putfield 23, 3)) (ho : K.1.cls = RX6) (kk : AW K (pc + 3) L st (wr μ 117 0 z) post) : AW K pc L (.inr (.inl z) :: .inr (.inr 6) :: st) μ post := z_put (T := TX6) (k := 0) (tg := 1) (id := 117) (v := .inr (.inl z)) tyX6 d ho inK6 tyX6_ok nmX6 (tc_1 234 rfl rfl) rfl rfl (by decide) rfl rfl (ty := .long) (by decide +kernel) rfl (fun ad => by simp only [cv, fvv, wr_same]) (fun _ => rfl) (fun _ => rfl) (by decide +kernel) (by decide +kernel) kk

theorem gfX6_7 {K : MK} {pc : Nat} {L : List (Option AV)} {st : List AV} {μ : Mem} {post : Option AV → Mem → Prop} (d : decode K.2.1 pc = .ok (.getfield 7, 3)) (ho : K.1.cls = RX6) (kk : AW K (pc + 3) L (.inr (.inl (μ 118 0)) :: st) μ post) : AW K pc L (.inr (.inr 6) :: st) μ post := z_get (T := TX6) (k := 1) (q := (1, 118)) d ho inK6 (tc_1 235 rfl rfl) rfl rfl (by decide) rfl rfl kk

theorem pfX6_7 {K : MK} {pc : Nat} {L : List (Option AV)} {st : List AV} {μ : Mem} {post : Option AV → Mem → Prop} {z : Int} (d : decode K.2.1 pc = .ok (.putfield 7, 3)) (ho : K.1.cls = RX6) (kk : AW K (pc + 3) L st (wr μ 118 0 z) post) : AW K pc L (.inr (.inl z) :: .inr (.inr 6) :: st) μ post := z_put (T := TX6) (k := 1) (tg := 1) (id := 118) (v := .inr (.inl z)) tyX6 d ho inK6 tyX6_ok nmX6 (tc_1 235 rfl rfl) rfl rfl (by decide) rfl rfl (ty := .long) (by decide +kernel) rfl (fun ad => by simp only [cv, fvv, wr_same]) (fun _ => rfl) (fun _ => rfl) (by decide +kernel) (by decide +kernel) kk

theorem gfX5_27 {K : MK} {pc : Nat} {L : List (Option AV)} {st : List AV} {μ : Mem} {post : Option AV → Mem → Prop} (d : decode K.2.1 pc = .ok (.getfield 27, 3)) (ho : K.1.cls = RX5) (kk : AW K (pc + 3) L (.inl (μ 119 0) :: st) μ post) : AW K pc L (.inr (.inr 7) :: st) μ post := z_get (T := TX5) (k := 0) (q := (0, 119)) d ho inK5 (tc_2 7 rfl rfl) rfl rfl (by decide) rfl rfl kk

theorem pfX5_27 {K : MK} {pc : Nat} {L : List (Option AV)} {st : List AV} {μ : Mem} {post : Option AV → Mem → Prop} {z : Int} (d : decode K.2.1 pc = .ok (.putfield 27, 3)) (ho : K.1.cls = RX5) (kk : AW K (pc + 3) L st (wr μ 119 0 z) post) : AW K pc L (.inl z :: .inr (.inr 7) :: st) μ post := z_put (T := TX5) (k := 0) (tg := 0) (id := 119) (v := .inl z) tyX5 d ho inK5 tyX5_ok nmX5 (tc_2 7 rfl rfl) rfl rfl (by decide) rfl rfl (ty := .int) (by decide +kernel) rfl (fun ad => by simp only [cv, fvv, wr_same]) (fun _ => rfl) (fun _ => rfl) (by decide +kernel) (by decide +kernel) kk

theorem gfX8_239 {K : MK} {pc : Nat} {L : List (Option AV)} {st : List AV} {μ : Mem} {post : Option AV → Mem → Prop} (d : decode K.2.1 pc = .ok (.getfield 239, 3)) (ho : K.1.cls = RX8) (kk : AW K (pc + 3) L (.inl (μ 119 0) :: st) μ post) : AW K pc L (.inr (.inr 7) :: st) μ post := z_get (T := TX5) (k := 0) (q := (0, 119)) d ho inK5 (tc_2 8 rfl rfl) rfl rfl (by decide) rfl rfl kk

theorem pfX8_239 {K : MK} {pc : Nat} {L : List (Option AV)} {st : List AV} {μ : Mem} {post : Option AV → Mem → Prop} {z : Int} (d : decode K.2.1 pc = .ok (.putfield 239, 3)) (ho : K.1.cls = RX8) (kk : AW K (pc + 3) L st (wr μ 119 0 z) post) : AW K pc L (.inl z :: .inr (.inr 7) :: st) μ post := z_put (T := TX5) (k := 0) (tg := 0) (id := 119) (v := .inl z) tyX5 d ho inK5 tyX5_ok nmX5 (tc_2 8 rfl rfl) rfl rfl (by decide) rfl rfl (ty := .int) (by decide +kernel) rfl (fun ad => by simp only [cv, fvv, wr_same]) (fun _ => rfl) (fun _ => rfl) (by decide +kernel) (by decide +kernel) kk

theorem gfX5_9 {K : MK} {pc : Nat} {L : List (Option AV)} {st : List AV} {μ : Mem} {post : Option AV → Mem → Prop} (d : decode K.2.1 pc = .ok (.getfield 9, 3)) (ho : K.1.cls = RX5) (kk : AW K (pc + 3) L (.inr (.inr 31) :: st) μ post) : AW K pc L (.inr (.inr 7) :: st) μ post := z_get (T := TX5) (k := 1) (q := (2, 31)) d ho inK5 (tc_2 9 rfl rfl) rfl rfl (by decide) rfl rfl kk

theorem gfX5_15 {K : MK} {pc : Nat} {L : List (Option AV)} {st : List AV} {μ : Mem} {post : Option AV → Mem → Prop} (d : decode K.2.1 pc = .ok (.getfield 15, 3)) (ho : K.1.cls = RX5) (kk : AW K (pc + 3) L (.inr (.inr 32) :: st) μ post) : AW K pc L (.inr (.inr 7) :: st) μ post := z_get (T := TX5) (k := 2) (q := (2, 32)) d ho inK5 (tc_2 10 rfl rfl) rfl rfl (by decide) rfl rfl kk

theorem gfX5_18 {K : MK} {pc : Nat} {L : List (Option AV)} {st : List AV} {μ : Mem} {post : Option AV → Mem → Prop} (d : decode K.2.1 pc = .ok (.getfield 18, 3)) (ho : K.1.cls = RX5) (kk : AW K (pc + 3) L (.inr (.inr 33) :: st) μ post) : AW K pc L (.inr (.inr 7) :: st) μ post := z_get (T := TX5) (k := 3) (q := (2, 33)) d ho inK5 (tc_2 11 rfl rfl) rfl rfl (by decide) rfl rfl kk

theorem gfX5_21 {K : MK} {pc : Nat} {L : List (Option AV)} {st : List AV} {μ : Mem} {post : Option AV → Mem → Prop} (d : decode K.2.1 pc = .ok (.getfield 21, 3)) (ho : K.1.cls = RX5) (kk : AW K (pc + 3) L (.inr (.inr 34) :: st) μ post) : AW K pc L (.inr (.inr 7) :: st) μ post := z_get (T := TX5) (k := 4) (q := (2, 34)) d ho inK5 (tc_2 12 rfl rfl) rfl rfl (by decide) rfl rfl kk

theorem gfX5_24 {K : MK} {pc : Nat} {L : List (Option AV)} {st : List AV} {μ : Mem} {post : Option AV → Mem → Prop} (d : decode K.2.1 pc = .ok (.getfield 24, 3)) (ho : K.1.cls = RX5) (kk : AW K (pc + 3) L (.inr (.inr 35) :: st) μ post) : AW K pc L (.inr (.inr 7) :: st) μ post := z_get (T := TX5) (k := 5) (q := (2, 35)) d ho inK5 (tc_2 13 rfl rfl) rfl rfl (by decide) rfl rfl kk

theorem gfX7_21 {K : MK} {pc : Nat} {L : List (Option AV)} {st : List AV} {μ : Mem} {post : Option AV → Mem → Prop} (d : decode K.2.1 pc = .ok (.getfield 21, 3)) (ho : K.1.cls = RX7) (kk : AW K (pc + 3) L (.inl (μ 120 0) :: st) μ post) : AW K pc L (.inr (.inr 8) :: st) μ post := z_get (T := TX7) (k := 0) (q := (0, 120)) d ho inK7 (tc_2 33 rfl rfl) rfl rfl (by decide) rfl rfl kk

theorem pfX7_21 {K : MK} {pc : Nat} {L : List (Option AV)} {st : List AV} {μ : Mem} {post : Option AV → Mem → Prop} {z : Int} (d : decode K.2.1 pc = .ok (.putfield 21, 3)) (ho : K.1.cls = RX7) (kk : AW K (pc + 3) L st (wr μ 120 0 z) post) : AW K pc L (.inl z :: .inr (.inr 8) :: st) μ post := z_put (T := TX7) (k := 0) (tg := 0) (id := 120) (v := .inl z) tyX7 d ho inK7 tyX7_ok nmX7 (tc_2 33 rfl rfl) rfl rfl (by decide) rfl rfl (ty := .int) (by decide +kernel) rfl (fun ad => by simp only [cv, fvv, wr_same]) (fun _ => rfl) (fun _ => rfl) (by decide +kernel) (by decide +kernel) kk

theorem gfX8_303 {K : MK} {pc : Nat} {L : List (Option AV)} {st : List AV} {μ : Mem} {post : Option AV → Mem → Prop} (d : decode K.2.1 pc = .ok (.getfield 303, 3)) (ho : K.1.cls = RX8) (kk : AW K (pc + 3) L (.inl (μ 120 0) :: st) μ post) : AW K pc L (.inr (.inr 8) :: st) μ post := z_get (T := TX7) (k := 0) (q := (0, 120)) d ho inK7 (tc_2 34 rfl rfl) rfl rfl (by decide) rfl rfl kk

theorem pfX8_303 {K : MK} {pc : Nat} {L : List (Option AV)} {st : List AV} {μ : Mem} {post : Option AV → Mem → Prop} {z : Int} (d : decode K.2.1 pc = .ok (.putfield 303, 3)) (ho : K.1.cls = RX8) (kk : AW K (pc + 3) L st (wr μ 120 0 z) post) : AW K pc L (.inl z :: .inr (.inr 8) :: st) μ post := z_put (T := TX7) (k := 0) (tg := 0) (id := 120) (v := .inl z) tyX7 d ho inK7 tyX7_ok nmX7 (tc_2 34 rfl rfl) rfl rfl (by decide) rfl rfl (ty := .int) (by decide +kernel) rfl (fun ad => by simp only [cv, fvv, wr_same]) (fun _ => rfl) (fun _ => rfl) (by decide +kernel) (by decide +kernel) kk

theorem gfX7_11 {K : MK} {pc : Nat} {L : List (Option AV)} {st : List AV} {μ : Mem} {post : Option AV → Mem → Prop} (d : decode K.2.1 pc = .ok (.getfield 11, 3)) (ho : K.1.cls = RX7) (kk : AW K (pc + 3) L (.inr (.inr 36) :: st) μ post) : AW K pc L (.inr (.inr 8) :: st) μ post := z_get (T := TX7) (k := 1) (q := (2, 36)) d ho inK7 (tc_2 35 rfl rfl) rfl rfl (by decide) rfl rfl kk

theorem gfX8_251 {K : MK} {pc : Nat} {L : List (Option AV)} {st : List AV} {μ : Mem} {post : Option AV → Mem → Prop} (d : decode K.2.1 pc = .ok (.getfield 251, 3)) (ho : K.1.cls = RX8) (kk : AW K (pc + 3) L (.inr (.inr 36) :: st) μ post) : AW K pc L (.inr (.inr 8) :: st) μ post := z_get (T := TX7) (k := 1) (q := (2, 36)) d ho inK7 (tc_2 36 rfl rfl) rfl rfl (by decide) rfl rfl kk

theorem gfX7_15 {K : MK} {pc : Nat} {L : List (Option AV)} {st : List AV} {μ : Mem} {post : Option AV → Mem → Prop} (d : decode K.2.1 pc = .ok (.getfield 15, 3)) (ho : K.1.cls = RX7) (kk : AW K (pc + 3) L (.inr (.inr 37) :: st) μ post) : AW K pc L (.inr (.inr 8) :: st) μ post := z_get (T := TX7) (k := 2) (q := (2, 37)) d ho inK7 (tc_2 37 rfl rfl) rfl rfl (by decide) rfl rfl kk

theorem gfX8_284 {K : MK} {pc : Nat} {L : List (Option AV)} {st : List AV} {μ : Mem} {post : Option AV → Mem → Prop} (d : decode K.2.1 pc = .ok (.getfield 284, 3)) (ho : K.1.cls = RX8) (kk : AW K (pc + 3) L (.inr (.inr 37) :: st) μ post) : AW K pc L (.inr (.inr 8) :: st) μ post := z_get (T := TX7) (k := 2) (q := (2, 37)) d ho inK7 (tc_2 38 rfl rfl) rfl rfl (by decide) rfl rfl kk

theorem gfX7_18 {K : MK} {pc : Nat} {L : List (Option AV)} {st : List AV} {μ : Mem} {post : Option AV → Mem → Prop} (d : decode K.2.1 pc = .ok (.getfield 18, 3)) (ho : K.1.cls = RX7) (kk : AW K (pc + 3) L (.inr (.inr 38) :: st) μ post) : AW K pc L (.inr (.inr 8) :: st) μ post := z_get (T := TX7) (k := 3) (q := (2, 38)) d ho inK7 (tc_2 39 rfl rfl) rfl rfl (by decide) rfl rfl kk

theorem gfX8_12 {K : MK} {pc : Nat} {L : List (Option AV)} {st : List AV} {μ : Mem} {post : Option AV → Mem → Prop} (d : decode K.2.1 pc = .ok (.getfield 12, 3)) (ho : K.1.cls = RX8) (kk : AW K (pc + 3) L (.inr (.inr 1) :: st) μ post) : AW K pc L (.inr (.inr 0) :: st) μ post := z_get (T := TX8) (k := 0) (q := (2, 1)) d ho inK8 (tc_2 49 rfl rfl) rfl rfl (by decide) rfl rfl kk

theorem gfX8_16 {K : MK} {pc : Nat} {L : List (Option AV)} {st : List AV} {μ : Mem} {post : Option AV → Mem → Prop} (d : decode K.2.1 pc = .ok (.getfield 16, 3)) (ho : K.1.cls = RX8) (kk : AW K (pc + 3) L (.inr (.inr 10) :: st) μ post) : AW K pc L (.inr (.inr 0) :: st) μ post := z_get (T := TX8) (k := 1) (q := (2, 10)) d ho inK8 (tc_2 50 rfl rfl) rfl rfl (by decide) rfl rfl kk

theorem gfX8_20 {K : MK} {pc : Nat} {L : List (Option AV)} {st : List AV} {μ : Mem} {post : Option AV → Mem → Prop} (d : decode K.2.1 pc = .ok (.getfield 20, 3)) (ho : K.1.cls = RX8) (kk : AW K (pc + 3) L (.inr (.inr 11) :: st) μ post) : AW K pc L (.inr (.inr 0) :: st) μ post := z_get (T := TX8) (k := 2) (q := (2, 11)) d ho inK8 (tc_2 51 rfl rfl) rfl rfl (by decide) rfl rfl kk

theorem gfX8_23 {K : MK} {pc : Nat} {L : List (Option AV)} {st : List AV} {μ : Mem} {post : Option AV → Mem → Prop} (d : decode K.2.1 pc = .ok (.getfield 23, 3)) (ho : K.1.cls = RX8) (kk : AW K (pc + 3) L (.inr (.inr 12) :: st) μ post) : AW K pc L (.inr (.inr 0) :: st) μ post := z_get (T := TX8) (k := 3) (q := (2, 12)) d ho inK8 (tc_2 52 rfl rfl) rfl rfl (by decide) rfl rfl kk

theorem gfX8_31 {K : MK} {pc : Nat} {L : List (Option AV)} {st : List AV} {μ : Mem} {post : Option AV → Mem → Prop} (d : decode K.2.1 pc = .ok (.getfield 31, 3)) (ho : K.1.cls = RX8) (kk : AW K (pc + 3) L (.inr (.inr 2) :: st) μ post) : AW K pc L (.inr (.inr 0) :: st) μ post := z_get (T := TX8) (k := 4) (q := (2, 2)) d ho inK8 (tc_2 53 rfl rfl) rfl rfl (by decide) rfl rfl kk

theorem gfX8_40 {K : MK} {pc : Nat} {L : List (Option AV)} {st : List AV} {μ : Mem} {post : Option AV → Mem → Prop} (d : decode K.2.1 pc = .ok (.getfield 40, 3)) (ho : K.1.cls = RX8) (kk : AW K (pc + 3) L (.inr (.inr 3) :: st) μ post) : AW K pc L (.inr (.inr 0) :: st) μ post := z_get (T := TX8) (k := 5) (q := (2, 3)) d ho inK8 (tc_2 54 rfl rfl) rfl rfl (by decide) rfl rfl kk

theorem gfX8_49 {K : MK} {pc : Nat} {L : List (Option AV)} {st : List AV} {μ : Mem} {post : Option AV → Mem → Prop} (d : decode K.2.1 pc = .ok (.getfield 49, 3)) (ho : K.1.cls = RX8) (kk : AW K (pc + 3) L (.inr (.inr 4) :: st) μ post) : AW K pc L (.inr (.inr 0) :: st) μ post := z_get (T := TX8) (k := 6) (q := (2, 4)) d ho inK8 (tc_2 55 rfl rfl) rfl rfl (by decide) rfl rfl kk

theorem gfX8_56 {K : MK} {pc : Nat} {L : List (Option AV)} {st : List AV} {μ : Mem} {post : Option AV → Mem → Prop} (d : decode K.2.1 pc = .ok (.getfield 56, 3)) (ho : K.1.cls = RX8) (kk : AW K (pc + 3) L (.inr (.inr 5) :: st) μ post) : AW K pc L (.inr (.inr 0) :: st) μ post := z_get (T := TX8) (k := 7) (q := (2, 5)) d ho inK8 (tc_2 56 rfl rfl) rfl rfl (by decide) rfl rfl kk

theorem gfX8_63 {K : MK} {pc : Nat} {L : List (Option AV)} {st : List AV} {μ : Mem} {post : Option AV → Mem → Prop} (d : decode K.2.1 pc = .ok (.getfield 63, 3)) (ho : K.1.cls = RX8) (kk : AW K (pc + 3) L (.inr (.inr 6) :: st) μ post) : AW K pc L (.inr (.inr 0) :: st) μ post := z_get (T := TX8) (k := 8) (q := (2, 6)) d ho inK8 (tc_2 57 rfl rfl) rfl rfl (by decide) rfl rfl kk

theorem gfX8_70 {K : MK} {pc : Nat} {L : List (Option AV)} {st : List AV} {μ : Mem} {post : Option AV → Mem → Prop} (d : decode K.2.1 pc = .ok (.getfield 70, 3)) (ho : K.1.cls = RX8) (kk : AW K (pc + 3) L (.inr (.inr 7) :: st) μ post) : AW K pc L (.inr (.inr 0) :: st) μ post := z_get (T := TX8) (k := 9) (q := (2, 7)) d ho inK8 (tc_2 58 rfl rfl) rfl rfl (by decide) rfl rfl kk

theorem gfX8_77 {K : MK} {pc : Nat} {L : List (Option AV)} {st : List AV} {μ : Mem} {post : Option AV → Mem → Prop} (d : decode K.2.1 pc = .ok (.getfield 77, 3)) (ho : K.1.cls = RX8) (kk : AW K (pc + 3) L (.inr (.inr 8) :: st) μ post) : AW K pc L (.inr (.inr 0) :: st) μ post := z_get (T := TX8) (k := 10) (q := (2, 8)) d ho inK8 (tc_2 59 rfl rfl) rfl rfl (by decide) rfl rfl kk

theorem gfX9_7 {K : MK} {pc : Nat} {L : List (Option AV)} {st : List AV} {μ : Mem} {post : Option AV → Mem → Prop} (d : decode K.2.1 pc = .ok (.getfield 7, 3)) (ho : K.1.cls = RX9) (kk : AW K (pc + 3) L (.inr (.inr 39) :: st) μ post) : AW K pc L (.inr (.inr 9) :: st) μ post := z_get (T := TX9) (k := 0) (q := (2, 39)) d ho inK9 (tc_4 155 rfl rfl) rfl rfl (by decide) rfl rfl kk

theorem gfX9_13 {K : MK} {pc : Nat} {L : List (Option AV)} {st : List AV} {μ : Mem} {post : Option AV → Mem → Prop} (d : decode K.2.1 pc = .ok (.getfield 13, 3)) (ho : K.1.cls = RX9) (kk : AW K (pc + 3) L (.inr (.inr 40) :: st) μ post) : AW K pc L (.inr (.inr 9) :: st) μ post := z_get (T := TX9) (k := 1) (q := (2, 40)) d ho inK9 (tc_4 156 rfl rfl) rfl rfl (by decide) rfl rfl kk

theorem gfX9_16 {K : MK} {pc : Nat} {L : List (Option AV)} {st : List AV} {μ : Mem} {post : Option AV → Mem → Prop} (d : decode K.2.1 pc = .ok (.getfield 16, 3)) (ho : K.1.cls = RX9) (kk : AW K (pc + 3) L (.inr (.inr 41) :: st) μ post) : AW K pc L (.inr (.inr 9) :: st) μ post := z_get (T := TX9) (k := 2) (q := (2, 41)) d ho inK9 (tc_4 157 rfl rfl) rfl rfl (by decide) rfl rfl kk

theorem gfX9_19 {K : MK} {pc : Nat} {L : List (Option AV)} {st : List AV} {μ : Mem} {post : Option AV → Mem → Prop} (d : decode K.2.1 pc = .ok (.getfield 19, 3)) (ho : K.1.cls = RX9) (kk : AW K (pc + 3) L (.inr (.inr 42) :: st) μ post) : AW K pc L (.inr (.inr 9) :: st) μ post := z_get (T := TX9) (k := 3) (q := (2, 42)) d ho inK9 (tc_4 158 rfl rfl) rfl rfl (by decide) rfl rfl kk

theorem gfX9_93 {K : MK} {pc : Nat} {L : List (Option AV)} {st : List AV} {μ : Mem} {post : Option AV → Mem → Prop} (d : decode K.2.1 pc = .ok (.getfield 93, 3)) (ho : K.1.cls = RX9) (kk : AW K (pc + 3) L (.inl (μ 121 0) :: st) μ post) : AW K pc L (.inr (.inr 9) :: st) μ post := z_get (T := TX9) (k := 4) (q := (0, 121)) d ho inK9 (tc_4 159 rfl rfl) rfl rfl (by decide) rfl rfl kk

theorem pfX9_93 {K : MK} {pc : Nat} {L : List (Option AV)} {st : List AV} {μ : Mem} {post : Option AV → Mem → Prop} {z : Int} (d : decode K.2.1 pc = .ok (.putfield 93, 3)) (ho : K.1.cls = RX9) (kk : AW K (pc + 3) L st (wr μ 121 0 z) post) : AW K pc L (.inl z :: .inr (.inr 9) :: st) μ post := z_put (T := TX9) (k := 4) (tg := 0) (id := 121) (v := .inl z) tyX9 d ho inK9 tyX9_ok nmX9 (tc_4 159 rfl rfl) rfl rfl (by decide) rfl rfl (ty := .int) (by decide +kernel) rfl (fun ad => by simp only [cv, fvv, wr_same]) (fun _ => rfl) (fun _ => rfl) (by decide +kernel) (by decide +kernel) kk

theorem gfX9_22 {K : MK} {pc : Nat} {L : List (Option AV)} {st : List AV} {μ : Mem} {post : Option AV → Mem → Prop} (d : decode K.2.1 pc = .ok (.getfield 22, 3)) (ho : K.1.cls = RX9) (kk : AW K (pc + 3) L (.inr (.inr 43) :: st) μ post) : AW K pc L (.inr (.inr 9) :: st) μ post := z_get (T := TX9) (k := 5) (q := (2, 43)) d ho inK9 (tc_4 160 rfl rfl) rfl rfl (by decide) rfl rfl kk

theorem gfX9_120 {K : MK} {pc : Nat} {L : List (Option AV)} {st : List AV} {μ : Mem} {post : Option AV → Mem → Prop} (d : decode K.2.1 pc = .ok (.getfield 120, 3)) (ho : K.1.cls = RX9) (kk : AW K (pc + 3) L (.inl (μ 122 0) :: st) μ post) : AW K pc L (.inr (.inr 9) :: st) μ post := z_get (T := TX9) (k := 6) (q := (0, 122)) d ho inK9 (tc_4 161 rfl rfl) rfl rfl (by decide) rfl rfl kk

theorem pfX9_120 {K : MK} {pc : Nat} {L : List (Option AV)} {st : List AV} {μ : Mem} {post : Option AV → Mem → Prop} {z : Int} (d : decode K.2.1 pc = .ok (.putfield 120, 3)) (ho : K.1.cls = RX9) (kk : AW K (pc + 3) L st (wr μ 122 0 z) post) : AW K pc L (.inl z :: .inr (.inr 9) :: st) μ post := z_put (T := TX9) (k := 6) (tg := 0) (id := 122) (v := .inl z) tyX9 d ho inK9 tyX9_ok nmX9 (tc_4 161 rfl rfl) rfl rfl (by decide) rfl rfl (ty := .int) (by decide +kernel) rfl (fun ad => by simp only [cv, fvv, wr_same]) (fun _ => rfl) (fun _ => rfl) (by decide +kernel) (by decide +kernel) kk

theorem gfX9_123 {K : MK} {pc : Nat} {L : List (Option AV)} {st : List AV} {μ : Mem} {post : Option AV → Mem → Prop} (d : decode K.2.1 pc = .ok (.getfield 123, 3)) (ho : K.1.cls = RX9) (kk : AW K (pc + 3) L (.inl (μ 123 0) :: st) μ post) : AW K pc L (.inr (.inr 9) :: st) μ post := z_get (T := TX9) (k := 7) (q := (0, 123)) d ho inK9 (tc_4 162 rfl rfl) rfl rfl (by decide) rfl rfl kk

theorem pfX9_123 {K : MK} {pc : Nat} {L : List (Option AV)} {st : List AV} {μ : Mem} {post : Option AV → Mem → Prop} {z : Int} (d : decode K.2.1 pc = .ok (.putfield 123, 3)) (ho : K.1.cls = RX9) (kk : AW K (pc + 3) L st (wr μ 123 0 z) post) : AW K pc L (.inl z :: .inr (.inr 9) :: st) μ post := z_put (T := TX9) (k := 7) (tg := 0) (id := 123) (v := .inl z) tyX9 d ho inK9 tyX9_ok nmX9 (tc_4 162 rfl rfl) rfl rfl (by decide) rfl rfl (ty := .int) (by decide +kernel) rfl (fun ad => by simp only [cv, fvv, wr_same]) (fun _ => rfl) (fun _ => rfl) (by decide +kernel) (by decide +kernel) kk

theorem gfX9_126 {K : MK} {pc : Nat} {L : List (Option AV)} {st : List AV} {μ : Mem} {post : Option AV → Mem → Prop} (d : decode K.2.1 pc = .ok (.getfield 126, 3)) (ho : K.1.cls = RX9) (kk : AW K (pc + 3) L (.inl (μ 124 0) :: st) μ post) : AW K pc L (.inr (.inr 9) :: st) μ post := z_get (T := TX9) (k := 8) (q := (0, 124)) d ho inK9 (tc_4 163 rfl rfl) rfl rfl (by decide) rfl rfl kk

theorem pfX9_126 {K : MK} {pc : Nat} {L : List (Option AV)} {st : List AV} {μ : Mem} {post : Option AV → Mem → Prop} {z : Int} (d : decode K.2.1 pc = .ok (.putfield 126, 3)) (ho : K.1.cls = RX9) (kk : AW K (pc + 3) L st (wr μ 124 0 z) post) : AW K pc L (.inl z :: .inr (.inr 9) :: st) μ post := z_put (T := TX9) (k := 8) (tg := 0) (id := 124) (v := .inl z) tyX9 d ho inK9 tyX9_ok nmX9 (tc_4 163 rfl rfl) rfl rfl (by decide) rfl rfl (ty := .int) (by decide +kernel) rfl (fun ad => by simp only [cv, fvv, wr_same]) (fun _ => rfl) (fun _ => rfl) (by decide +kernel) (by decide +kernel) kk

theorem gfX9_25 {K : MK} {pc : Nat} {L : List (Option AV)} {st : List AV} {μ : Mem} {post : Option AV → Mem → Prop} (d : decode K.2.1 pc = .ok (.getfield 25, 3)) (ho : K.1.cls = RX9) (kk : AW K (pc + 3) L (.inr (.inr 44) :: st) μ post) : AW K pc L (.inr (.inr 9) :: st) μ post := z_get (T := TX9) (k := 9) (q := (2, 44)) d ho inK9 (tc_4 164 rfl rfl) rfl rfl (by decide) rfl rfl kk

theorem gfX9_129 {K : MK} {pc : Nat} {L : List (Option AV)} {st : List AV} {μ : Mem} {post : Option AV → Mem → Prop} (d : decode K.2.1 pc = .ok (.getfield 129, 3)) (ho : K.1.cls = RX9) (kk : AW K (pc + 3) L (.inl (μ 125 0) :: st) μ post) : AW K pc L (.inr (.inr 9) :: st) μ post := z_get (T := TX9) (k := 10) (q := (0, 125)) d ho inK9 (tc_4 165 rfl rfl) rfl rfl (by decide) rfl rfl kk

theorem pfX9_129 {K : MK} {pc : Nat} {L : List (Option AV)} {st : List AV} {μ : Mem} {post : Option AV → Mem → Prop} {z : Int} (d : decode K.2.1 pc = .ok (.putfield 129, 3)) (ho : K.1.cls = RX9) (kk : AW K (pc + 3) L st (wr μ 125 0 z) post) : AW K pc L (.inl z :: .inr (.inr 9) :: st) μ post := z_put (T := TX9) (k := 10) (tg := 0) (id := 125) (v := .inl z) tyX9 d ho inK9 tyX9_ok nmX9 (tc_4 165 rfl rfl) rfl rfl (by decide) rfl rfl (ty := .int) (by decide +kernel) rfl (fun ad => by simp only [cv, fvv, wr_same]) (fun _ => rfl) (fun _ => rfl) (by decide +kernel) (by decide +kernel) kk

theorem gfX9_28 {K : MK} {pc : Nat} {L : List (Option AV)} {st : List AV} {μ : Mem} {post : Option AV → Mem → Prop} (d : decode K.2.1 pc = .ok (.getfield 28, 3)) (ho : K.1.cls = RX9) (kk : AW K (pc + 3) L (.inr (.inr 45) :: st) μ post) : AW K pc L (.inr (.inr 9) :: st) μ post := z_get (T := TX9) (k := 11) (q := (2, 45)) d ho inK9 (tc_4 166 rfl rfl) rfl rfl (by decide) rfl rfl kk

theorem gfX9_31 {K : MK} {pc : Nat} {L : List (Option AV)} {st : List AV} {μ : Mem} {post : Option AV → Mem → Prop} (d : decode K.2.1 pc = .ok (.getfield 31, 3)) (ho : K.1.cls = RX9) (kk : AW K (pc + 3) L (.inr (.inr 46) :: st) μ post) : AW K pc L (.inr (.inr 9) :: st) μ post := z_get (T := TX9) (k := 12) (q := (2, 46)) d ho inK9 (tc_4 167 rfl rfl) rfl rfl (by decide) rfl rfl kk

theorem gfX9_34 {K : MK} {pc : Nat} {L : List (Option AV)} {st : List AV} {μ : Mem} {post : Option AV → Mem → Prop} (d : decode K.2.1 pc = .ok (.getfield 34, 3)) (ho : K.1.cls = RX9) (kk : AW K (pc + 3) L (.inr (.inr 47) :: st) μ post) : AW K pc L (.inr (.inr 9) :: st) μ post := z_get (T := TX9) (k := 13) (q := (2, 47)) d ho inK9 (tc_4 168 rfl rfl) rfl rfl (by decide) rfl rfl kk

theorem gfX9_37 {K : MK} {pc : Nat} {L : List (Option AV)} {st : List AV} {μ : Mem} {post : Option AV → Mem → Prop} (d : decode K.2.1 pc = .ok (.getfield 37, 3)) (ho : K.1.cls = RX9) (kk : AW K (pc + 3) L (.inr (.inr 48) :: st) μ post) : AW K pc L (.inr (.inr 9) :: st) μ post := z_get (T := TX9) (k := 14) (q := (2, 48)) d ho inK9 (tc_4 169 rfl rfl) rfl rfl (by decide) rfl rfl kk

theorem gfX9_40 {K : MK} {pc : Nat} {L : List (Option AV)} {st : List AV} {μ : Mem} {post : Option AV → Mem → Prop} (d : decode K.2.1 pc = .ok (.getfield 40, 3)) (ho : K.1.cls = RX9) (kk : AW K (pc + 3) L (.inr (.inr 49) :: st) μ post) : AW K pc L (.inr (.inr 9) :: st) μ post := z_get (T := TX9) (k := 15) (q := (2, 49)) d ho inK9 (tc_4 170 rfl rfl) rfl rfl (by decide) rfl rfl kk

theorem gfX9_43 {K : MK} {pc : Nat} {L : List (Option AV)} {st : List AV} {μ : Mem} {post : Option AV → Mem → Prop} (d : decode K.2.1 pc = .ok (.getfield 43, 3)) (ho : K.1.cls = RX9) (kk : AW K (pc + 3) L (.inr (.inr 50) :: st) μ post) : AW K pc L (.inr (.inr 9) :: st) μ post := z_get (T := TX9) (k := 16) (q := (2, 50)) d ho inK9 (tc_4 171 rfl rfl) rfl rfl (by decide) rfl rfl kk

theorem gfX9_46 {K : MK} {pc : Nat} {L : List (Option AV)} {st : List AV} {μ : Mem} {post : Option AV → Mem → Prop} (d : decode K.2.1 pc = .ok (.getfield 46, 3)) (ho : K.1.cls = RX9) (kk : AW K (pc + 3) L (.inr (.inr 51) :: st) μ post) : AW K pc L (.inr (.inr 9) :: st) μ post := z_get (T := TX9) (k := 17) (q := (2, 51)) d ho inK9 (tc_4 172 rfl rfl) rfl rfl (by decide) rfl rfl kk

theorem gfX9_49 {K : MK} {pc : Nat} {L : List (Option AV)} {st : List AV} {μ : Mem} {post : Option AV → Mem → Prop} (d : decode K.2.1 pc = .ok (.getfield 49, 3)) (ho : K.1.cls = RX9) (kk : AW K (pc + 3) L (.inr (.inr 52) :: st) μ post) : AW K pc L (.inr (.inr 9) :: st) μ post := z_get (T := TX9) (k := 18) (q := (2, 52)) d ho inK9 (tc_4 173 rfl rfl) rfl rfl (by decide) rfl rfl kk

theorem gfX9_174 {K : MK} {pc : Nat} {L : List (Option AV)} {st : List AV} {μ : Mem} {post : Option AV → Mem → Prop} (d : decode K.2.1 pc = .ok (.getfield 174, 3)) (ho : K.1.cls = RX9) (kk : AW K (pc + 3) L (.inl (μ 126 0) :: st) μ post) : AW K pc L (.inr (.inr 9) :: st) μ post := z_get (T := TX9) (k := 19) (q := (0, 126)) d ho inK9 (tc_4 174 rfl rfl) rfl rfl (by decide) rfl rfl kk

theorem pfX9_174 {K : MK} {pc : Nat} {L : List (Option AV)} {st : List AV} {μ : Mem} {post : Option AV → Mem → Prop} {z : Int} (d : decode K.2.1 pc = .ok (.putfield 174, 3)) (ho : K.1.cls = RX9) (kk : AW K (pc + 3) L st (wr μ 126 0 z) post) : AW K pc L (.inl z :: .inr (.inr 9) :: st) μ post := z_put (T := TX9) (k := 19) (tg := 0) (id := 126) (v := .inl z) tyX9 d ho inK9 tyX9_ok nmX9 (tc_4 174 rfl rfl) rfl rfl (by decide) rfl rfl (ty := .int) (by decide +kernel) rfl (fun ad => by simp only [cv, fvv, wr_same]) (fun _ => rfl) (fun _ => rfl) (by decide +kernel) (by decide +kernel) kk

theorem gfX9_177 {K : MK} {pc : Nat} {L : List (Option AV)} {st : List AV} {μ : Mem} {post : Option AV → Mem → Prop} (d : decode K.2.1 pc = .ok (.getfield 177, 3)) (ho : K.1.cls = RX9) (kk : AW K (pc + 3) L (.inl (μ 127 0) :: st) μ post) : AW K pc L (.inr (.inr 9) :: st) μ post := z_get (T := TX9) (k := 20) (q := (0, 127)) d ho inK9 (tc_4 175 rfl rfl) rfl rfl (by decide) rfl rfl kk

theorem pfX9_177 {K : MK} {pc : Nat} {L : List (Option AV)} {st : List AV} {μ : Mem} {post : Option AV → Mem → Prop} {z : Int} (d : decode K.2.1 pc = .ok (.putfield 177, 3)) (ho : K.1.cls = RX9) (kk : AW K (pc + 3) L st (wr μ 127 0 z) post) : AW K pc L (.inl z :: .inr (.inr 9) :: st) μ post := z_put (T := TX9) (k := 20) (tg := 0) (id := 127) (v := .inl z) tyX9 d ho inK9 tyX9_ok nmX9 (tc_4 175 rfl rfl) rfl rfl (by decide) rfl rfl (ty := .int) (by decide +kernel) rfl (fun ad => by simp only [cv, fvv, wr_same]) (fun _ => rfl) (fun _ => rfl) (by decide +kernel) (by decide +kernel) kk

theorem gfX9_180 {K : MK} {pc : Nat} {L : List (Option AV)} {st : List AV} {μ : Mem} {post : Option AV → Mem → Prop} (d : decode K.2.1 pc = .ok (.getfield 180, 3)) (ho : K.1.cls = RX9) (kk : AW K (pc + 3) L (.inl (μ 128 0) :: st) μ post) : AW K pc L (.inr (.inr 9) :: st) μ post := z_get (T := TX9) (k := 21) (q := (0, 128)) d ho inK9 (tc_4 176 rfl rfl) rfl rfl (by decide) rfl rfl kk

theorem pfX9_180 {K : MK} {pc : Nat} {L : List (Option AV)} {st : List AV} {μ : Mem} {post : Option AV → Mem → Prop} {z : Int} (d : decode K.2.1 pc = .ok (.putfield 180, 3)) (ho : K.1.cls = RX9) (kk : AW K (pc + 3) L st (wr μ 128 0 z) post) : AW K pc L (.inl z :: .inr (.inr 9) :: st) μ post := z_put (T := TX9) (k := 21) (tg := 0) (id := 128) (v := .inl z) tyX9 d ho inK9 tyX9_ok nmX9 (tc_4 176 rfl rfl) rfl rfl (by decide) rfl rfl (ty := .int) (by decide +kernel) rfl (fun ad => by simp only [cv, fvv, wr_same]) (fun _ => rfl) (fun _ => rfl) (by decide +kernel) (by decide +kernel) kk

theorem gfX9_171 {K : MK} {pc : Nat} {L : List (Option AV)} {st : List AV} {μ : Mem} {post : Option AV → Mem → Prop} (d : decode K.2.1 pc = .ok (.getfield 171, 3)) (ho : K.1.cls = RX9) (kk : AW K (pc + 3) L (.inl (μ 129 0) :: st) μ post) : AW K pc L (.inr (.inr 9) :: st) μ post := z_get (T := TX9) (k := 22) (q := (0, 129)) d ho inK9 (tc_4 177 rfl rfl) rfl rfl (by decide) rfl rfl kk

theorem pfX9_171 {K : MK} {pc : Nat} {L : List (Option AV)} {st : List AV} {μ : Mem} {post : Option AV → Mem → Prop} {z : Int} (d : decode K.2.1 pc = .ok (.putfield 171, 3)) (ho : K.1.cls = RX9) (kk : AW K (pc + 3) L st (wr μ 129 0 z) post) : AW K pc L (.inl z :: .inr (.inr 9) :: st) μ post := z_put (T := TX9) (k := 22) (tg := 0) (id := 129) (v := .inl z) tyX9 d ho inK9 tyX9_ok nmX9 (tc_4 177 rfl rfl) rfl rfl (by decide) rfl rfl (ty := .int) (by decide +kernel) rfl (fun ad => by simp only [cv, fvv, wr_same]) (fun _ => rfl) (fun _ => rfl) (by decide +kernel) (by decide +kernel) kk

theorem gfX9_183 {K : MK} {pc : Nat} {L : List (Option AV)} {st : List AV} {μ : Mem} {post : Option AV → Mem → Prop} (d : decode K.2.1 pc = .ok (.getfield 183, 3)) (ho : K.1.cls = RX9) (kk : AW K (pc + 3) L (.inl (μ 130 0) :: st) μ post) : AW K pc L (.inr (.inr 9) :: st) μ post := z_get (T := TX9) (k := 23) (q := (0, 130)) d ho inK9 (tc_4 178 rfl rfl) rfl rfl (by decide) rfl rfl kk

theorem pfX9_183 {K : MK} {pc : Nat} {L : List (Option AV)} {st : List AV} {μ : Mem} {post : Option AV → Mem → Prop} {z : Int} (d : decode K.2.1 pc = .ok (.putfield 183, 3)) (ho : K.1.cls = RX9) (kk : AW K (pc + 3) L st (wr μ 130 0 z) post) : AW K pc L (.inl z :: .inr (.inr 9) :: st) μ post := z_put (T := TX9) (k := 23) (tg := 0) (id := 130) (v := .inl z) tyX9 d ho inK9 tyX9_ok nmX9 (tc_4 178 rfl rfl) rfl rfl (by decide) rfl rfl (ty := .int) (by decide +kernel) rfl (fun ad => by simp only [cv, fvv, wr_same]) (fun _ => rfl) (fun _ => rfl) (by decide +kernel) (by decide +kernel) kk

theorem gfX9_52 {K : MK} {pc : Nat} {L : List (Option AV)} {st : List AV} {μ : Mem} {post : Option AV → Mem → Prop} (d : decode K.2.1 pc = .ok (.getfield 52, 3)) (ho : K.1.cls = RX9) (kk : AW K (pc + 3) L (.inr (.inr 53) :: st) μ post) : AW K pc L (.inr (.inr 9) :: st) μ post := z_get (T := TX9) (k := 24) (q := (2, 53)) d ho inK9 (tc_4 179 rfl rfl) rfl rfl (by decide) rfl rfl kk

theorem gfX9_56 {K : MK} {pc : Nat} {L : List (Option AV)} {st : List AV} {μ : Mem} {post : Option AV → Mem → Prop} (d : decode K.2.1 pc = .ok (.getfield 56, 3)) (ho : K.1.cls = RX9) (kk : AW K (pc + 3) L (.inr (.inr 54) :: st) μ post) : AW K pc L (.inr (.inr 9) :: st) μ post := z_get (T := TX9) (k := 25) (q := (2, 54)) d ho inK9 (tc_4 180 rfl rfl) rfl rfl (by decide) rfl rfl kk

theorem gfX9_270 {K : MK} {pc : Nat} {L : List (Option AV)} {st : List AV} {μ : Mem} {post : Option AV → Mem → Prop} (d : decode K.2.1 pc = .ok (.getfield 270, 3)) (ho : K.1.cls = RX9) (kk : AW K (pc + 3) L (.inl (μ 131 0) :: st) μ post) : AW K pc L (.inr (.inr 9) :: st) μ post := z_get (T := TX9) (k := 26) (q := (0, 131)) d ho inK9 (tc_4 181 rfl rfl) rfl rfl (by decide) rfl rfl kk

theorem pfX9_270 {K : MK} {pc : Nat} {L : List (Option AV)} {st : List AV} {μ : Mem} {post : Option AV → Mem → Prop} {z : Int} (d : decode K.2.1 pc = .ok (.putfield 270, 3)) (ho : K.1.cls = RX9) (kk : AW K (pc + 3) L st (wr μ 131 0 z) post) : AW K pc L (.inl z :: .inr (.inr 9) :: st) μ post := z_put (T := TX9) (k := 26) (tg := 0) (id := 131) (v := .inl z) tyX9 d ho inK9 tyX9_ok nmX9 (tc_4 181 rfl rfl) rfl rfl (by decide) rfl rfl (ty := .int) (by decide +kernel) rfl (fun ad => by simp only [cv, fvv, wr_same]) (fun _ => rfl) (fun _ => rfl) (by decide +kernel) (by decide +kernel) kk

theorem gfX9_273 {K : MK} {pc : Nat} {L : List (Option AV)} {st : List AV} {μ : Mem} {post : Option AV → Mem → Prop} (d : decode K.2.1 pc = .ok (.getfield 273, 3)) (ho : K.1.cls = RX9) (kk : AW K (pc + 3) L (.inl (μ 132 0) :: st) μ post) : AW K pc L (.inr (.inr 9) :: st) μ post := z_get (T := TX9) (k := 27) (q := (0, 132)) d ho inK9 (tc_4 182 rfl rfl) rfl rfl (by decide) rfl rfl kk

theorem pfX9_273 {K : MK} {pc : Nat} {L : List (Option AV)} {st : List AV} {μ : Mem} {post : Option AV → Mem → Prop} {z : Int} (d : decode K.2.1 pc = .ok (.putfield 273, 3)) (ho : K.1.cls = RX9) (kk : AW K (pc + 3) L st (wr μ 132 0 z) post) : AW K pc L (.inl z :: .inr (.inr 9) :: st) μ post := z_put (T := TX9) (k := 27) (tg := 0) (id := 132) (v := .inl z) tyX9 d ho inK9 tyX9_ok nmX9 (tc_4 182 rfl rfl) rfl rfl (by decide) rfl rfl (ty := .int) (by decide +kernel) rfl (fun ad => by simp only [cv, fvv, wr_same]) (fun _ => rfl) (fun _ => rfl) (by decide +kernel) (by decide +kernel) kk

theorem gfX9_266 {K : MK} {pc : Nat} {L : List (Option AV)} {st : List AV} {μ : Mem} {post : Option AV → Mem → Prop} (d : decode K.2.1 pc = .ok (.getfield 266, 3)) (ho : K.1.cls = RX9) (kk : AW K (pc + 3) L (.inr (.inl (μ 133 0)) :: st) μ post) : AW K pc L (.inr (.inr 9) :: st) μ post := z_get (T := TX9) (k := 28) (q := (1, 133)) d ho inK9 (tc_4 183 rfl rfl) rfl rfl (by decide) rfl rfl kk

theorem pfX9_266 {K : MK} {pc : Nat} {L : List (Option AV)} {st : List AV} {μ : Mem} {post : Option AV → Mem → Prop} {z : Int} (d : decode K.2.1 pc = .ok (.putfield 266, 3)) (ho : K.1.cls = RX9) (kk : AW K (pc + 3) L st (wr μ 133 0 z) post) : AW K pc L (.inr (.inl z) :: .inr (.inr 9) :: st) μ post := z_put (T := TX9) (k := 28) (tg := 1) (id := 133) (v := .inr (.inl z)) tyX9 d ho inK9 tyX9_ok nmX9 (tc_4 183 rfl rfl) rfl rfl (by decide) rfl rfl (ty := .long) (by decide +kernel) rfl (fun ad => by simp only [cv, fvv, wr_same]) (fun _ => rfl) (fun _ => rfl) (by decide +kernel) (by decide +kernel) kk

theorem gfX9_59 {K : MK} {pc : Nat} {L : List (Option AV)} {st : List AV} {μ : Mem} {post : Option AV → Mem → Prop} (d : decode K.2.1 pc = .ok (.getfield 59, 3)) (ho : K.1.cls = RX9) (kk : AW K (pc + 3) L (.inr (.inr 55) :: st) μ post) : AW K pc L (.inr (.inr 9) :: st) μ post := z_get (T := TX9) (k := 29) (q := (2, 55)) d ho inK9 (tc_4 184 rfl rfl) rfl rfl (by decide) rfl rfl kk

theorem gfX9_62 {K : MK} {pc : Nat} {L : List (Option AV)} {st : List AV} {μ : Mem} {post : Option AV → Mem → Prop} (d : decode K.2.1 pc = .ok (.getfield 62, 3)) (ho : K.1.cls = RX9) (kk : AW K (pc + 3) L (.inr (.inr 56) :: st) μ post) : AW K pc L (.inr (.inr 9) :: st) μ post := z_get (T := TX9) (k := 30) (q := (2, 56)) d ho inK9 (tc_4 185 rfl rfl) rfl rfl (by decide) rfl rfl kk

theorem gfX9_65 {K : MK} {pc : Nat} {L : List (Option AV)} {st : List AV} {μ : Mem} {post : Option AV → Mem → Prop} (d : decode K.2.1 pc = .ok (.getfield 65, 3)) (ho : K.1.cls = RX9) (kk : AW K (pc + 3) L (.inr (.inr 57) :: st) μ post) : AW K pc L (.inr (.inr 9) :: st) μ post := z_get (T := TX9) (k := 31) (q := (2, 57)) d ho inK9 (tc_4 186 rfl rfl) rfl rfl (by decide) rfl rfl kk

theorem gfX9_318 {K : MK} {pc : Nat} {L : List (Option AV)} {st : List AV} {μ : Mem} {post : Option AV → Mem → Prop} (d : decode K.2.1 pc = .ok (.getfield 318, 3)) (ho : K.1.cls = RX9) (kk : AW K (pc + 3) L (.inl (μ 134 0) :: st) μ post) : AW K pc L (.inr (.inr 9) :: st) μ post := z_get (T := TX9) (k := 32) (q := (0, 134)) d ho inK9 (tc_4 187 rfl rfl) rfl rfl (by decide) rfl rfl kk

theorem pfX9_318 {K : MK} {pc : Nat} {L : List (Option AV)} {st : List AV} {μ : Mem} {post : Option AV → Mem → Prop} {z : Int} (d : decode K.2.1 pc = .ok (.putfield 318, 3)) (ho : K.1.cls = RX9) (kk : AW K (pc + 3) L st (wr μ 134 0 z) post) : AW K pc L (.inl z :: .inr (.inr 9) :: st) μ post := z_put (T := TX9) (k := 32) (tg := 0) (id := 134) (v := .inl z) tyX9 d ho inK9 tyX9_ok nmX9 (tc_4 187 rfl rfl) rfl rfl (by decide) rfl rfl (ty := .int) (by decide +kernel) rfl (fun ad => by simp only [cv, fvv, wr_same]) (fun _ => rfl) (fun _ => rfl) (by decide +kernel) (by decide +kernel) kk

theorem gfX9_332 {K : MK} {pc : Nat} {L : List (Option AV)} {st : List AV} {μ : Mem} {post : Option AV → Mem → Prop} (d : decode K.2.1 pc = .ok (.getfield 332, 3)) (ho : K.1.cls = RX9) (kk : AW K (pc + 3) L (.inl (μ 135 0) :: st) μ post) : AW K pc L (.inr (.inr 9) :: st) μ post := z_get (T := TX9) (k := 33) (q := (0, 135)) d ho inK9 (tc_4 188 rfl rfl) rfl rfl (by decide) rfl rfl kk

theorem pfX9_332 {K : MK} {pc : Nat} {L : List (Option AV)} {st : List AV} {μ : Mem} {post : Option AV → Mem → Prop} {z : Int} (d : decode K.2.1 pc = .ok (.putfield 332, 3)) (ho : K.1.cls = RX9) (kk : AW K (pc + 3) L st (wr μ 135 0 z) post) : AW K pc L (.inl z :: .inr (.inr 9) :: st) μ post := z_put (T := TX9) (k := 33) (tg := 0) (id := 135) (v := .inl z) tyX9 d ho inK9 tyX9_ok nmX9 (tc_4 188 rfl rfl) rfl rfl (by decide) rfl rfl (ty := .int) (by decide +kernel) rfl (fun ad => by simp only [cv, fvv, wr_same]) (fun _ => rfl) (fun _ => rfl) (by decide +kernel) (by decide +kernel) kk

theorem gfX9_68 {K : MK} {pc : Nat} {L : List (Option AV)} {st : List AV} {μ : Mem} {post : Option AV → Mem → Prop} (d : decode K.2.1 pc = .ok (.getfield 68, 3)) (ho : K.1.cls = RX9) (kk : AW K (pc + 3) L (.inr (.inr 58) :: st) μ post) : AW K pc L (.inr (.inr 9) :: st) μ post := z_get (T := TX9) (k := 34) (q := (2, 58)) d ho inK9 (tc_4 189 rfl rfl) rfl rfl (by decide) rfl rfl kk

theorem gfX9_71 {K : MK} {pc : Nat} {L : List (Option AV)} {st : List AV} {μ : Mem} {post : Option AV → Mem → Prop} (d : decode K.2.1 pc = .ok (.getfield 71, 3)) (ho : K.1.cls = RX9) (kk : AW K (pc + 3) L (.inr (.inr 59) :: st) μ post) : AW K pc L (.inr (.inr 9) :: st) μ post := z_get (T := TX9) (k := 35) (q := (2, 59)) d ho inK9 (tc_4 190 rfl rfl) rfl rfl (by decide) rfl rfl kk

theorem gfX9_74 {K : MK} {pc : Nat} {L : List (Option AV)} {st : List AV} {μ : Mem} {post : Option AV → Mem → Prop} (d : decode K.2.1 pc = .ok (.getfield 74, 3)) (ho : K.1.cls = RX9) (kk : AW K (pc + 3) L (.inr (.inr 60) :: st) μ post) : AW K pc L (.inr (.inr 9) :: st) μ post := z_get (T := TX9) (k := 36) (q := (2, 60)) d ho inK9 (tc_4 191 rfl rfl) rfl rfl (by decide) rfl rfl kk

theorem gfX9_77 {K : MK} {pc : Nat} {L : List (Option AV)} {st : List AV} {μ : Mem} {post : Option AV → Mem → Prop} (d : decode K.2.1 pc = .ok (.getfield 77, 3)) (ho : K.1.cls = RX9) (kk : AW K (pc + 3) L (.inr (.inr 61) :: st) μ post) : AW K pc L (.inr (.inr 9) :: st) μ post := z_get (T := TX9) (k := 37) (q := (2, 61)) d ho inK9 (tc_4 192 rfl rfl) rfl rfl (by decide) rfl rfl kk

theorem gfX9_81 {K : MK} {pc : Nat} {L : List (Option AV)} {st : List AV} {μ : Mem} {post : Option AV → Mem → Prop} (d : decode K.2.1 pc = .ok (.getfield 81, 3)) (ho : K.1.cls = RX9) (kk : AW K (pc + 3) L (.inr (.inr 62) :: st) μ post) : AW K pc L (.inr (.inr 9) :: st) μ post := z_get (T := TX9) (k := 38) (q := (2, 62)) d ho inK9 (tc_4 193 rfl rfl) rfl rfl (by decide) rfl rfl kk

theorem gfX9_84 {K : MK} {pc : Nat} {L : List (Option AV)} {st : List AV} {μ : Mem} {post : Option AV → Mem → Prop} (d : decode K.2.1 pc = .ok (.getfield 84, 3)) (ho : K.1.cls = RX9) (kk : AW K (pc + 3) L (.inr (.inr 63) :: st) μ post) : AW K pc L (.inr (.inr 9) :: st) μ post := z_get (T := TX9) (k := 39) (q := (2, 63)) d ho inK9 (tc_4 194 rfl rfl) rfl rfl (by decide) rfl rfl kk

