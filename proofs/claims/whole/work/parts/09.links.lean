theorem zt_all : lw_tbl = k2_sels lw_privs ++ tables_1 := rfl
theorem zt_1 (i : Nat) {w : Cond} (h : tables_1_1[i]? = some w) (hg : goodWord w = true) : w ∈ zTb := List.mem_filter.mpr ⟨List.mem_append_right _ ((fun h : w ∈ tables_1_1 => (show w ∈ tables_1 from (List.mem_append_left _ h))) (List.mem_of_getElem? h)), hg⟩
theorem zt_2 (i : Nat) {w : Cond} (h : tables_1_2[i]? = some w) (hg : goodWord w = true) : w ∈ zTb := List.mem_filter.mpr ⟨List.mem_append_right _ ((fun h : w ∈ tables_1_2 => (show w ∈ tables_1 from (List.mem_append_right _ (List.mem_append_left _ h)))) (List.mem_of_getElem? h)), hg⟩
theorem zt_3 (i : Nat) {w : Cond} (h : tables_1_3[i]? = some w) (hg : goodWord w = true) : w ∈ zTb := List.mem_filter.mpr ⟨List.mem_append_right _ ((fun h : w ∈ tables_1_3 => (show w ∈ tables_1 from (List.mem_append_right _ (List.mem_append_right _ (List.mem_append_left _ h))))) (List.mem_of_getElem? h)), hg⟩
theorem zt_4 (i : Nat) {w : Cond} (h : tables_1_4[i]? = some w) (hg : goodWord w = true) : w ∈ zTb := List.mem_filter.mpr ⟨List.mem_append_right _ ((fun h : w ∈ tables_1_4 => (show w ∈ tables_1 from (List.mem_append_right _ (List.mem_append_right _ (List.mem_append_right _ (List.mem_append_left _ h)))))) (List.mem_of_getElem? h)), hg⟩
theorem zt_5 (i : Nat) {w : Cond} (h : tables_1_5[i]? = some w) (hg : goodWord w = true) : w ∈ zTb := List.mem_filter.mpr ⟨List.mem_append_right _ ((fun h : w ∈ tables_1_5 => (show w ∈ tables_1 from (List.mem_append_right _ (List.mem_append_right _ (List.mem_append_right _ (List.mem_append_right _ (List.mem_append_left _ h))))))) (List.mem_of_getElem? h)), hg⟩
theorem zt_6 (i : Nat) {w : Cond} (h : tables_1_6[i]? = some w) (hg : goodWord w = true) : w ∈ zTb := List.mem_filter.mpr ⟨List.mem_append_right _ ((fun h : w ∈ tables_1_6 => (show w ∈ tables_1 from (List.mem_append_right _ (List.mem_append_right _ (List.mem_append_right _ (List.mem_append_right _ (List.mem_append_right _ (List.mem_append_left _ h)))))))) (List.mem_of_getElem? h)), hg⟩
theorem zt_7 (i : Nat) {w : Cond} (h : tables_1_7[i]? = some w) (hg : goodWord w = true) : w ∈ zTb := List.mem_filter.mpr ⟨List.mem_append_right _ ((fun h : w ∈ tables_1_7 => (show w ∈ tables_1 from (List.mem_append_right _ (List.mem_append_right _ (List.mem_append_right _ (List.mem_append_right _ (List.mem_append_right _ (List.mem_append_right _ h)))))))) (List.mem_of_getElem? h)), hg⟩
theorem zt_0 (i : Nat) {w : Cond} (h : (k2_sels lw_privs)[i]? = some w) (hg : goodWord w = true) : w ∈ zTb := List.mem_filter.mpr ⟨List.mem_append_left _ (List.mem_of_getElem? h), hg⟩
abbrev zm_X11_init : zY := (yX11_init, cX11_init, 2, none)
set_option maxRecDepth 40000 in
theorem zk_X11_init : Cond.code (zm_X11_init).1 (zm_X11_init).2.1 (zm_X11_init).2.2.1 (zm_X11_init).2.2.2 ∈ zTb := zt_1 27 rfl rfl
abbrev zm_X8_init : zY := (yX8_init, cX8_init, 1, none)
set_option maxRecDepth 40000 in
theorem zk_X8_init : Cond.code (zm_X8_init).1 (zm_X8_init).2.1 (zm_X8_init).2.2.1 (zm_X8_init).2.2.2 ∈ zTb := zt_1 35 rfl rfl
abbrev zm_X0_init : zY := (yX0_init, cX0_init, 1, none)
set_option maxRecDepth 40000 in
theorem zk_X0_init : Cond.code (zm_X0_init).1 (zm_X0_init).2.1 (zm_X0_init).2.2.1 (zm_X0_init).2.2.2 ∈ zTb := zt_1 51 rfl rfl
abbrev zm_X2_init : zY := (yX2_init, cX2_init, 1, none)
set_option maxRecDepth 40000 in
theorem zk_X2_init : Cond.code (zm_X2_init).1 (zm_X2_init).2.1 (zm_X2_init).2.2.1 (zm_X2_init).2.2.2 ∈ zTb := zt_1 68 rfl rfl
abbrev zm_X5_init : zY := (yX5_init, cX5_init, 4, none)
set_option maxRecDepth 40000 in
theorem zk_X5_init : Cond.code (zm_X5_init).1 (zm_X5_init).2.1 (zm_X5_init).2.2.1 (zm_X5_init).2.2.2 ∈ zTb := zt_1 139 rfl rfl
abbrev zm_X9_init : zY := (yX9_init, cX9_init, 4, none)
set_option maxRecDepth 40000 in
theorem zk_X9_init : Cond.code (zm_X9_init).1 (zm_X9_init).2.1 (zm_X9_init).2.2.1 (zm_X9_init).2.2.2 ∈ zTb := zt_1 145 rfl rfl
abbrev zm_J0_length_8abf5 : zY := (yJ0_length_8abf5, cJ0_length_8abf5, 1, (some .int))
set_option maxRecDepth 40000 in
theorem zk_J0_length_8abf5 : Cond.code (zm_J0_length_8abf5).1 (zm_J0_length_8abf5).2.1 (zm_J0_length_8abf5).2.2.1 (zm_J0_length_8abf5).2.2.2 ∈ zTb := zt_1 151 rfl rfl
theorem zv_J0_length_8abf5 : zCV zm_J0_length_8abf5 := ⟨zt_1 149 (by decide +kernel) rfl, zt_1 150 (by decide +kernel) rfl⟩
abbrev zm_J0_coder_7d493 : zY := (yJ0_coder_7d493, cJ0_coder_7d493, 1, (some .byte))
set_option maxRecDepth 40000 in
theorem zk_J0_coder_7d493 : Cond.code (zm_J0_coder_7d493).1 (zm_J0_coder_7d493).2.1 (zm_J0_coder_7d493).2.2.1 (zm_J0_coder_7d493).2.2.2 ∈ zTb := zt_1 155 rfl rfl
theorem zv_J0_coder_7d493 : zCV zm_J0_coder_7d493 := ⟨zt_1 153 (by decide +kernel) rfl, zt_1 154 (by decide +kernel) rfl⟩
abbrev zm_J0_charAt_5068e : zY := (yJ0_charAt_5068e, cJ0_charAt_5068e, 2, (some .char))
set_option maxRecDepth 40000 in
theorem zk_J0_charAt_5068e : Cond.code (zm_J0_charAt_5068e).1 (zm_J0_charAt_5068e).2.1 (zm_J0_charAt_5068e).2.2.1 (zm_J0_charAt_5068e).2.2.2 ∈ zTb := zt_1 161 rfl rfl
theorem zv_J0_charAt_5068e : zCV zm_J0_charAt_5068e := ⟨zt_1 159 (by decide +kernel) rfl, zt_1 160 (by decide +kernel) rfl⟩
abbrev zm_J0_isLatin1_aae02 : zY := (yJ0_isLatin1_aae02, cJ0_isLatin1_aae02, 1, (some .boolean))
set_option maxRecDepth 40000 in
theorem zk_J0_isLatin1_aae02 : Cond.code (zm_J0_isLatin1_aae02).1 (zm_J0_isLatin1_aae02).2.1 (zm_J0_isLatin1_aae02).2.2.1 (zm_J0_isLatin1_aae02).2.2.2 ∈ zTb := zt_1 165 rfl rfl
theorem zv_J0_isLatin1_aae02 : zCV zm_J0_isLatin1_aae02 := ⟨zt_1 163 (by decide +kernel) rfl, zt_1 164 (by decide +kernel) rfl⟩
abbrev zm_J1_charAt_3b067 : zY := (yJ1_charAt_3b067, cJ1_charAt_3b067, 2, (some .char))
set_option maxRecDepth 40000 in
theorem zk_J1_charAt_3b067 : Cond.code (zm_J1_charAt_3b067).1 (zm_J1_charAt_3b067).2.1 (zm_J1_charAt_3b067).2.2.1 (zm_J1_charAt_3b067).2.2.2 ∈ zTb := zt_1 168 rfl rfl
theorem zs_J1_charAt_3b067 : Cond.static (zm_J1_charAt_3b067).1 ∈ zTb := zt_1 167 (by decide +kernel) rfl
abbrev zm_J0_checkIndex_df160 : zY := (yJ0_checkIndex_df160, cJ0_checkIndex_df160, 2, none)
set_option maxRecDepth 40000 in
theorem zk_J0_checkIndex_df160 : Cond.code (zm_J0_checkIndex_df160).1 (zm_J0_checkIndex_df160).2.1 (zm_J0_checkIndex_df160).2.2.1 (zm_J0_checkIndex_df160).2.2.2 ∈ zTb := zt_1 171 rfl rfl
theorem zs_J0_checkIndex_df160 : Cond.static (zm_J0_checkIndex_df160).1 ∈ zTb := zt_1 170 (by decide +kernel) rfl
abbrev zm_J3_checkIndex_8e157 : zY := (yJ3_checkIndex_8e157, cJ3_checkIndex_8e157, 3, (some .int))
set_option maxRecDepth 40000 in
theorem zk_J3_checkIndex_8e157 : Cond.code (zm_J3_checkIndex_8e157).1 (zm_J3_checkIndex_8e157).2.1 (zm_J3_checkIndex_8e157).2.2.1 (zm_J3_checkIndex_8e157).2.2.2 ∈ zTb := zt_1 176 rfl rfl
theorem zs_J3_checkIndex_8e157 : Cond.static (zm_J3_checkIndex_8e157).1 ∈ zTb := zt_1 175 (by decide +kernel) rfl
abbrev zm_X4_init : zY := (yX4_init, cX4_init, 1, none)
set_option maxRecDepth 40000 in
theorem zk_X4_init : Cond.code (zm_X4_init).1 (zm_X4_init).2.1 (zm_X4_init).2.2.1 (zm_X4_init).2.2.2 ∈ zTb := zt_2 12 rfl rfl
abbrev zm_X10_init : zY := (yX10_init, cX10_init, 1, none)
set_option maxRecDepth 40000 in
theorem zk_X10_init : Cond.code (zm_X10_init).1 (zm_X10_init).2.1 (zm_X10_init).2.2.1 (zm_X10_init).2.2.2 ∈ zTb := zt_2 41 rfl rfl
abbrev zm_X6_init : zY := (yX6_init, cX6_init, 3, none)
set_option maxRecDepth 40000 in
theorem zk_X6_init : Cond.code (zm_X6_init).1 (zm_X6_init).2.1 (zm_X6_init).2.2.1 (zm_X6_init).2.2.2 ∈ zTb := zt_2 53 rfl rfl
abbrev zm_X7_init : zY := (yX7_init, cX7_init, 1, none)
set_option maxRecDepth 40000 in
theorem zk_X7_init : Cond.code (zm_X7_init).1 (zm_X7_init).2.1 (zm_X7_init).2.2.1 (zm_X7_init).2.2.2 ∈ zTb := zt_2 99 rfl rfl
abbrev zm_X1_init : zY := (yX1_init, cX1_init, 2, none)
set_option maxRecDepth 40000 in
theorem zk_X1_init : Cond.code (zm_X1_init).1 (zm_X1_init).2.1 (zm_X1_init).2.2.1 (zm_X1_init).2.2.2 ∈ zTb := zt_2 130 rfl rfl
abbrev zm_X6_open : zY := (yX6_open, cX6_open, 3, none)
set_option maxRecDepth 40000 in
theorem zk_X6_open : Cond.code (zm_X6_open).1 (zm_X6_open).2.1 (zm_X6_open).2.2.1 (zm_X6_open).2.2.2 ∈ zTb := zt_2 165 rfl rfl
theorem zv_X6_open : zCV zm_X6_open := ⟨zt_2 163 (by decide +kernel) rfl, zt_2 164 (by decide +kernel) rfl⟩
abbrev zm_X2_worldCount : zY := (yX2_worldCount, cX2_worldCount, 1, (some .int))
set_option maxRecDepth 40000 in
theorem zk_X2_worldCount : Cond.code (zm_X2_worldCount).1 (zm_X2_worldCount).2.1 (zm_X2_worldCount).2.2.1 (zm_X2_worldCount).2.2.2 ∈ zTb := zt_2 169 rfl rfl
theorem zv_X2_worldCount : zCV zm_X2_worldCount := ⟨zt_2 167 (by decide +kernel) rfl, zt_2 168 (by decide +kernel) rfl⟩
abbrev zm_X10_open : zY := (yX10_open, cX10_open, 4, none)
set_option maxRecDepth 40000 in
theorem zk_X10_open : Cond.code (zm_X10_open).1 (zm_X10_open).2.1 (zm_X10_open).2.2.1 (zm_X10_open).2.2.2 ∈ zTb := zt_2 173 rfl rfl
theorem zv_X10_open : zCV zm_X10_open := ⟨zt_2 171 (by decide +kernel) rfl, zt_2 172 (by decide +kernel) rfl⟩
abbrev zm_X11_feed : zY := (yX11_feed, cX11_feed, 6, (some .int))
set_option maxRecDepth 40000 in
theorem zk_X11_feed : Cond.code (zm_X11_feed).1 (zm_X11_feed).2.1 (zm_X11_feed).2.2.1 (zm_X11_feed).2.2.2 ∈ zTb := zt_2 218 rfl rfl
theorem zv_X11_feed : zCV zm_X11_feed := ⟨zt_2 216 (by decide +kernel) rfl, zt_2 217 (by decide +kernel) rfl⟩
abbrev zm_X8_take : zY := (yX8_take, cX8_take, 6, (some .int))
set_option maxRecDepth 40000 in
theorem zk_X8_take : Cond.code (zm_X8_take).1 (zm_X8_take).2.1 (zm_X8_take).2.2.1 (zm_X8_take).2.2.2 ∈ zTb := zt_2 222 rfl rfl
theorem zv_X8_take : zCV zm_X8_take := ⟨zt_2 220 (by decide +kernel) rfl, zt_2 221 (by decide +kernel) rfl⟩
abbrev zm_X8_put : zY := (yX8_put, cX8_put, 3, none)
set_option maxRecDepth 40000 in
theorem zk_X8_put : Cond.code (zm_X8_put).1 (zm_X8_put).2.1 (zm_X8_put).2.2.1 (zm_X8_put).2.2.2 ∈ zTb := zt_2 226 rfl rfl
theorem zv_X8_put : zCV zm_X8_put := ⟨zt_2 225 (by decide +kernel) rfl, zt_0 0 (by decide +kernel) rfl⟩
abbrev zm_X11_end : zY := (yX11_end, cX11_end, 2, (some .int))
set_option maxRecDepth 40000 in
theorem zk_X11_end : Cond.code (zm_X11_end).1 (zm_X11_end).2.1 (zm_X11_end).2.2.1 (zm_X11_end).2.2.2 ∈ zTb := zt_2 230 rfl rfl
theorem zv_X11_end : zCV zm_X11_end := ⟨zt_2 228 (by decide +kernel) rfl, zt_2 229 (by decide +kernel) rfl⟩
abbrev zm_X11_island : zY := (yX11_island, cX11_island, 4, (some .int))
set_option maxRecDepth 40000 in
theorem zk_X11_island : Cond.code (zm_X11_island).1 (zm_X11_island).2.1 (zm_X11_island).2.2.1 (zm_X11_island).2.2.2 ∈ zTb := zt_2 234 rfl rfl
theorem zv_X11_island : zCV zm_X11_island := ⟨zt_2 232 (by decide +kernel) rfl, zt_2 233 (by decide +kernel) rfl⟩
abbrev zm_X5_readIsland : zY := (yX5_readIsland, cX5_readIsland, 3, (some .boolean))
set_option maxRecDepth 40000 in
theorem zk_X5_readIsland : Cond.code (zm_X5_readIsland).1 (zm_X5_readIsland).2.1 (zm_X5_readIsland).2.2.1 (zm_X5_readIsland).2.2.2 ∈ zTb := zt_2 238 rfl rfl
theorem zv_X5_readIsland : zCV zm_X5_readIsland := ⟨zt_2 236 (by decide +kernel) rfl, zt_2 237 (by decide +kernel) rfl⟩
abbrev zm_X2_clear : zY := (yX2_clear, cX2_clear, 1, none)
set_option maxRecDepth 40000 in
theorem zk_X2_clear : Cond.code (zm_X2_clear).1 (zm_X2_clear).2.1 (zm_X2_clear).2.2.1 (zm_X2_clear).2.2.2 ∈ zTb := zt_3 2 rfl rfl
theorem zv_X2_clear : zCV zm_X2_clear := ⟨zt_3 0 (by decide +kernel) rfl, zt_3 1 (by decide +kernel) rfl⟩
abbrev zm_X5_begin : zY := (yX5_begin, cX5_begin, 4, none)
set_option maxRecDepth 40000 in
theorem zk_X5_begin : Cond.code (zm_X5_begin).1 (zm_X5_begin).2.1 (zm_X5_begin).2.2.1 (zm_X5_begin).2.2.2 ∈ zTb := zt_3 6 rfl rfl
theorem zv_X5_begin : zCV zm_X5_begin := ⟨zt_3 5 (by decide +kernel) rfl, zt_0 1 (by decide +kernel) rfl⟩
abbrev zm_X9_scan : zY := (yX9_scan, cX9_scan, 2, none)
set_option maxRecDepth 40000 in
theorem zk_X9_scan : Cond.code (zm_X9_scan).1 (zm_X9_scan).2.1 (zm_X9_scan).2.2.1 (zm_X9_scan).2.2.2 ∈ zTb := zt_3 10 rfl rfl
theorem zv_X9_scan : zCV zm_X9_scan := ⟨zt_3 8 (by decide +kernel) rfl, zt_3 9 (by decide +kernel) rfl⟩
abbrev zm_X9_skipBlanks : zY := (yX9_skipBlanks, cX9_skipBlanks, 1, none)
set_option maxRecDepth 40000 in
theorem zk_X9_skipBlanks : Cond.code (zm_X9_skipBlanks).1 (zm_X9_skipBlanks).2.1 (zm_X9_skipBlanks).2.2.1 (zm_X9_skipBlanks).2.2.2 ∈ zTb := zt_3 14 rfl rfl
theorem zv_X9_skipBlanks : zCV zm_X9_skipBlanks := ⟨zt_3 13 (by decide +kernel) rfl, zt_0 2 (by decide +kernel) rfl⟩
abbrev zm_X8_at : zY := (yX8_at, cX8_at, 2, (some .int))
set_option maxRecDepth 40000 in
theorem zk_X8_at : Cond.code (zm_X8_at).1 (zm_X8_at).2.1 (zm_X8_at).2.2.1 (zm_X8_at).2.2.2 ∈ zTb := zt_3 18 rfl rfl
theorem zv_X8_at : zCV zm_X8_at := ⟨zt_3 16 (by decide +kernel) rfl, zt_3 17 (by decide +kernel) rfl⟩
abbrev zm_X9_take : zY := (yX9_take, cX9_take, 2, (some .int))
set_option maxRecDepth 40000 in
theorem zk_X9_take : Cond.code (zm_X9_take).1 (zm_X9_take).2.1 (zm_X9_take).2.2.1 (zm_X9_take).2.2.2 ∈ zTb := zt_3 22 rfl rfl
theorem zv_X9_take : zCV zm_X9_take := ⟨zt_3 21 (by decide +kernel) rfl, zt_0 3 (by decide +kernel) rfl⟩
abbrev zm_X9_isLetter : zY := (yX9_isLetter, cX9_isLetter, 1, (some .boolean))
set_option maxRecDepth 40000 in
theorem zk_X9_isLetter : Cond.code (zm_X9_isLetter).1 (zm_X9_isLetter).2.1 (zm_X9_isLetter).2.2.1 (zm_X9_isLetter).2.2.2 ∈ zTb := zt_3 25 rfl rfl
theorem zs_X9_isLetter : Cond.static (zm_X9_isLetter).1 ∈ zTb := zt_3 24 (by decide +kernel) rfl
abbrev zm_X9_takeWord : zY := (yX9_takeWord, cX9_takeWord, 5, (some .int))
set_option maxRecDepth 40000 in
theorem zk_X9_takeWord : Cond.code (zm_X9_takeWord).1 (zm_X9_takeWord).2.1 (zm_X9_takeWord).2.2.1 (zm_X9_takeWord).2.2.2 ∈ zTb := zt_3 29 rfl rfl
theorem zv_X9_takeWord : zCV zm_X9_takeWord := ⟨zt_3 28 (by decide +kernel) rfl, zt_0 4 (by decide +kernel) rfl⟩
abbrev zm_X9_isDigit : zY := (yX9_isDigit, cX9_isDigit, 1, (some .boolean))
set_option maxRecDepth 40000 in
theorem zk_X9_isDigit : Cond.code (zm_X9_isDigit).1 (zm_X9_isDigit).2.1 (zm_X9_isDigit).2.2.1 (zm_X9_isDigit).2.2.2 ∈ zTb := zt_3 32 rfl rfl
theorem zs_X9_isDigit : Cond.static (zm_X9_isDigit).1 ∈ zTb := zt_3 31 (by decide +kernel) rfl
abbrev zm_X9_takeNumber : zY := (yX9_takeNumber, cX9_takeNumber, 4, (some .int))
set_option maxRecDepth 40000 in
theorem zk_X9_takeNumber : Cond.code (zm_X9_takeNumber).1 (zm_X9_takeNumber).2.1 (zm_X9_takeNumber).2.2.1 (zm_X9_takeNumber).2.2.2 ∈ zTb := zt_3 36 rfl rfl
theorem zv_X9_takeNumber : zCV zm_X9_takeNumber := ⟨zt_3 35 (by decide +kernel) rfl, zt_0 5 (by decide +kernel) rfl⟩
abbrev zm_J0_indexOf_0f7a4 : zY := (yJ0_indexOf_0f7a4, cJ0_indexOf_0f7a4, 2, (some .int))
set_option maxRecDepth 40000 in
theorem zk_J0_indexOf_0f7a4 : Cond.code (zm_J0_indexOf_0f7a4).1 (zm_J0_indexOf_0f7a4).2.1 (zm_J0_indexOf_0f7a4).2.2.1 (zm_J0_indexOf_0f7a4).2.2.2 ∈ zTb := zt_3 41 rfl rfl
theorem zv_J0_indexOf_0f7a4 : zCV zm_J0_indexOf_0f7a4 := ⟨zt_3 39 (by decide +kernel) rfl, zt_3 40 (by decide +kernel) rfl⟩
abbrev zm_J0_indexOf_7cf53 : zY := (yJ0_indexOf_7cf53, cJ0_indexOf_7cf53, 3, (some .int))
set_option maxRecDepth 40000 in
theorem zk_J0_indexOf_7cf53 : Cond.code (zm_J0_indexOf_7cf53).1 (zm_J0_indexOf_7cf53).2.1 (zm_J0_indexOf_7cf53).2.2.1 (zm_J0_indexOf_7cf53).2.2.2 ∈ zTb := zt_3 45 rfl rfl
theorem zv_J0_indexOf_7cf53 : zCV zm_J0_indexOf_7cf53 := ⟨zt_3 43 (by decide +kernel) rfl, zt_3 44 (by decide +kernel) rfl⟩
abbrev zm_J1_indexOf_4cfef : zY := (yJ1_indexOf_4cfef, cJ1_indexOf_4cfef, 4, (some .int))
set_option maxRecDepth 40000 in
theorem zk_J1_indexOf_4cfef : Cond.code (zm_J1_indexOf_4cfef).1 (zm_J1_indexOf_4cfef).2.1 (zm_J1_indexOf_4cfef).2.2.1 (zm_J1_indexOf_4cfef).2.2.2 ∈ zTb := zt_3 49 rfl rfl
theorem zs_J1_indexOf_4cfef : Cond.static (zm_J1_indexOf_4cfef).1 ∈ zTb := zt_3 48 (by decide +kernel) rfl
abbrev zm_J1_canEncode_9a6ad : zY := (yJ1_canEncode_9a6ad, cJ1_canEncode_9a6ad, 1, (some .boolean))
set_option maxRecDepth 40000 in
theorem zk_J1_canEncode_9a6ad : Cond.code (zm_J1_canEncode_9a6ad).1 (zm_J1_canEncode_9a6ad).2.1 (zm_J1_canEncode_9a6ad).2.2.1 (zm_J1_canEncode_9a6ad).2.2.2 ∈ zTb := zt_3 52 rfl rfl
theorem zs_J1_canEncode_9a6ad : Cond.static (zm_J1_canEncode_9a6ad).1 ∈ zTb := zt_3 51 (by decide +kernel) rfl
abbrev zm_J1_indexOfChar_4cfef : zY := (yJ1_indexOfChar_4cfef, cJ1_indexOfChar_4cfef, 6, (some .int))
set_option maxRecDepth 40000 in
theorem zk_J1_indexOfChar_4cfef : Cond.code (zm_J1_indexOfChar_4cfef).1 (zm_J1_indexOfChar_4cfef).2.1 (zm_J1_indexOfChar_4cfef).2.2.1 (zm_J1_indexOfChar_4cfef).2.2.2 ∈ zTb := zt_3 61 rfl rfl
theorem zs_J1_indexOfChar_4cfef : Cond.static (zm_J1_indexOfChar_4cfef).1 ∈ zTb := zt_3 60 (by decide +kernel) rfl
abbrev zm_J0_checkBoundsBeginEnd_23922 : zY := (yJ0_checkBoundsBeginEnd_23922, cJ0_checkBoundsBeginEnd_23922, 3, none)
set_option maxRecDepth 40000 in
theorem zk_J0_checkBoundsBeginEnd_23922 : Cond.code (zm_J0_checkBoundsBeginEnd_23922).1 (zm_J0_checkBoundsBeginEnd_23922).2.1 (zm_J0_checkBoundsBeginEnd_23922).2.2.1 (zm_J0_checkBoundsBeginEnd_23922).2.2.2 ∈ zTb := zt_3 76 rfl rfl
theorem zs_J0_checkBoundsBeginEnd_23922 : Cond.static (zm_J0_checkBoundsBeginEnd_23922).1 ∈ zTb := zt_3 75 (by decide +kernel) rfl
abbrev zm_J3_checkFromToIndex_8c36e : zY := (yJ3_checkFromToIndex_8c36e, cJ3_checkFromToIndex_8c36e, 4, (some .int))
set_option maxRecDepth 40000 in
theorem zk_J3_checkFromToIndex_8c36e : Cond.code (zm_J3_checkFromToIndex_8c36e).1 (zm_J3_checkFromToIndex_8c36e).2.1 (zm_J3_checkFromToIndex_8c36e).2.2.1 (zm_J3_checkFromToIndex_8c36e).2.2.2 ∈ zTb := zt_3 79 rfl rfl
theorem zs_J3_checkFromToIndex_8c36e : Cond.static (zm_J3_checkFromToIndex_8c36e).1 ∈ zTb := zt_3 78 (by decide +kernel) rfl
abbrev zm_X9_kindOf : zY := (yX9_kindOf, cX9_kindOf, 2, (some .int))
set_option maxRecDepth 40000 in
theorem zk_X9_kindOf : Cond.code (zm_X9_kindOf).1 (zm_X9_kindOf).2.1 (zm_X9_kindOf).2.2.1 (zm_X9_kindOf).2.2.2 ∈ zTb := zt_3 100 rfl rfl
theorem zv_X9_kindOf : zCV zm_X9_kindOf := ⟨zt_3 98 (by decide +kernel) rfl, zt_3 99 (by decide +kernel) rfl⟩
abbrev zm_X5_readPerson : zY := (yX5_readPerson, cX5_readPerson, 4, none)
set_option maxRecDepth 40000 in
theorem zk_X5_readPerson : Cond.code (zm_X5_readPerson).1 (zm_X5_readPerson).2.1 (zm_X5_readPerson).2.2.1 (zm_X5_readPerson).2.2.2 ∈ zTb := zt_3 104 rfl rfl
theorem zv_X5_readPerson : zCV zm_X5_readPerson := ⟨zt_3 103 (by decide +kernel) rfl, zt_0 6 (by decide +kernel) rfl⟩
abbrev zm_X2_takesPeople : zY := (yX2_takesPeople, cX2_takesPeople, 1, (some .boolean))
set_option maxRecDepth 40000 in
theorem zk_X2_takesPeople : Cond.code (zm_X2_takesPeople).1 (zm_X2_takesPeople).2.1 (zm_X2_takesPeople).2.2.1 (zm_X2_takesPeople).2.2.2 ∈ zTb := zt_3 108 rfl rfl
theorem zv_X2_takesPeople : zCV zm_X2_takesPeople := ⟨zt_3 106 (by decide +kernel) rfl, zt_3 107 (by decide +kernel) rfl⟩
abbrev zm_X5_fail : zY := (yX5_fail, cX5_fail, 2, none)
set_option maxRecDepth 40000 in
theorem zk_X5_fail : Cond.code (zm_X5_fail).1 (zm_X5_fail).2.1 (zm_X5_fail).2.2.1 (zm_X5_fail).2.2.2 ∈ zTb := zt_3 112 rfl rfl
theorem zv_X5_fail : zCV zm_X5_fail := ⟨zt_3 111 (by decide +kernel) rfl, zt_0 7 (by decide +kernel) rfl⟩
abbrev zm_X9_placeOf : zY := (yX9_placeOf, cX9_placeOf, 2, (some .int))
set_option maxRecDepth 40000 in
theorem zk_X9_placeOf : Cond.code (zm_X9_placeOf).1 (zm_X9_placeOf).2.1 (zm_X9_placeOf).2.2.1 (zm_X9_placeOf).2.2.2 ∈ zTb := zt_3 116 rfl rfl
theorem zv_X9_placeOf : zCV zm_X9_placeOf := ⟨zt_3 114 (by decide +kernel) rfl, zt_3 115 (by decide +kernel) rfl⟩
abbrev zm_X5_advance : zY := (yX5_advance, cX5_advance, 1, none)
set_option maxRecDepth 40000 in
theorem zk_X5_advance : Cond.code (zm_X5_advance).1 (zm_X5_advance).2.1 (zm_X5_advance).2.2.1 (zm_X5_advance).2.2.2 ∈ zTb := zt_3 120 rfl rfl
theorem zv_X5_advance : zCV zm_X5_advance := ⟨zt_3 119 (by decide +kernel) rfl, zt_0 8 (by decide +kernel) rfl⟩
abbrev zm_X9_valueOf : zY := (yX9_valueOf, cX9_valueOf, 2, (some .long))
set_option maxRecDepth 40000 in
theorem zk_X9_valueOf : Cond.code (zm_X9_valueOf).1 (zm_X9_valueOf).2.1 (zm_X9_valueOf).2.2.1 (zm_X9_valueOf).2.2.2 ∈ zTb := zt_3 124 rfl rfl
theorem zv_X9_valueOf : zCV zm_X9_valueOf := ⟨zt_3 122 (by decide +kernel) rfl, zt_3 123 (by decide +kernel) rfl⟩
abbrev zm_X2_find : zY := (yX2_find, cX2_find, 4, (some .int))
set_option maxRecDepth 40000 in
theorem zk_X2_find : Cond.code (zm_X2_find).1 (zm_X2_find).2.1 (zm_X2_find).2.2.1 (zm_X2_find).2.2.2 ∈ zTb := zt_3 128 rfl rfl
theorem zv_X2_find : zCV zm_X2_find := ⟨zt_3 126 (by decide +kernel) rfl, zt_3 127 (by decide +kernel) rfl⟩
abbrev zm_X2_addPerson : zY := (yX2_addPerson, cX2_addPerson, 4, none)
set_option maxRecDepth 40000 in
theorem zk_X2_addPerson : Cond.code (zm_X2_addPerson).1 (zm_X2_addPerson).2.1 (zm_X2_addPerson).2.2.1 (zm_X2_addPerson).2.2.2 ∈ zTb := zt_3 132 rfl rfl
theorem zv_X2_addPerson : zCV zm_X2_addPerson := ⟨zt_3 130 (by decide +kernel) rfl, zt_3 131 (by decide +kernel) rfl⟩
abbrev zm_X5_accept : zY := (yX5_accept, cX5_accept, 3, (some .boolean))
set_option maxRecDepth 40000 in
theorem zk_X5_accept : Cond.code (zm_X5_accept).1 (zm_X5_accept).2.1 (zm_X5_accept).2.2.1 (zm_X5_accept).2.2.2 ∈ zTb := zt_3 136 rfl rfl
theorem zv_X5_accept : zCV zm_X5_accept := ⟨zt_3 135 (by decide +kernel) rfl, zt_0 9 (by decide +kernel) rfl⟩
abbrev zm_X2_giveMirror : zY := (yX2_giveMirror, cX2_giveMirror, 2, none)
set_option maxRecDepth 40000 in
theorem zk_X2_giveMirror : Cond.code (zm_X2_giveMirror).1 (zm_X2_giveMirror).2.1 (zm_X2_giveMirror).2.2.1 (zm_X2_giveMirror).2.2.2 ∈ zTb := zt_3 140 rfl rfl
theorem zv_X2_giveMirror : zCV zm_X2_giveMirror := ⟨zt_3 138 (by decide +kernel) rfl, zt_3 139 (by decide +kernel) rfl⟩
abbrev zm_X2_isPerson : zY := (yX2_isPerson, cX2_isPerson, 2, (some .boolean))
set_option maxRecDepth 40000 in
theorem zk_X2_isPerson : Cond.code (zm_X2_isPerson).1 (zm_X2_isPerson).2.1 (zm_X2_isPerson).2.2.1 (zm_X2_isPerson).2.2.2 ∈ zTb := zt_3 144 rfl rfl
theorem zv_X2_isPerson : zCV zm_X2_isPerson := ⟨zt_3 142 (by decide +kernel) rfl, zt_3 143 (by decide +kernel) rfl⟩
abbrev zm_X5_readBlind : zY := (yX5_readBlind, cX5_readBlind, 3, none)
set_option maxRecDepth 40000 in
theorem zk_X5_readBlind : Cond.code (zm_X5_readBlind).1 (zm_X5_readBlind).2.1 (zm_X5_readBlind).2.2.1 (zm_X5_readBlind).2.2.2 ∈ zTb := zt_3 148 rfl rfl
theorem zv_X5_readBlind : zCV zm_X5_readBlind := ⟨zt_3 147 (by decide +kernel) rfl, zt_0 10 (by decide +kernel) rfl⟩
abbrev zm_X5_readName : zY := (yX5_readName, cX5_readName, 2, (some .int))
set_option maxRecDepth 40000 in
theorem zk_X5_readName : Cond.code (zm_X5_readName).1 (zm_X5_readName).2.1 (zm_X5_readName).2.2.1 (zm_X5_readName).2.2.2 ∈ zTb := zt_3 152 rfl rfl
theorem zv_X5_readName : zCV zm_X5_readName := ⟨zt_3 151 (by decide +kernel) rfl, zt_0 11 (by decide +kernel) rfl⟩
abbrev zm_X2_canBlind : zY := (yX2_canBlind, cX2_canBlind, 3, (some .boolean))
set_option maxRecDepth 40000 in
theorem zk_X2_canBlind : Cond.code (zm_X2_canBlind).1 (zm_X2_canBlind).2.1 (zm_X2_canBlind).2.2.1 (zm_X2_canBlind).2.2.2 ∈ zTb := zt_3 156 rfl rfl
theorem zv_X2_canBlind : zCV zm_X2_canBlind := ⟨zt_3 154 (by decide +kernel) rfl, zt_3 155 (by decide +kernel) rfl⟩
abbrev zm_X2_addBlind : zY := (yX2_addBlind, cX2_addBlind, 3, none)
set_option maxRecDepth 40000 in
theorem zk_X2_addBlind : Cond.code (zm_X2_addBlind).1 (zm_X2_addBlind).2.1 (zm_X2_addBlind).2.2.1 (zm_X2_addBlind).2.2.2 ∈ zTb := zt_3 160 rfl rfl
theorem zv_X2_addBlind : zCV zm_X2_addBlind := ⟨zt_3 158 (by decide +kernel) rfl, zt_3 159 (by decide +kernel) rfl⟩
abbrev zm_X5_readLaw : zY := (yX5_readLaw, cX5_readLaw, 1, none)
set_option maxRecDepth 40000 in
theorem zk_X5_readLaw : Cond.code (zm_X5_readLaw).1 (zm_X5_readLaw).2.1 (zm_X5_readLaw).2.2.1 (zm_X5_readLaw).2.2.2 ∈ zTb := zt_3 164 rfl rfl
theorem zv_X5_readLaw : zCV zm_X5_readLaw := ⟨zt_3 163 (by decide +kernel) rfl, zt_0 12 (by decide +kernel) rfl⟩
abbrev zm_X5_expect : zY := (yX5_expect, cX5_expect, 2, none)
set_option maxRecDepth 40000 in
theorem zk_X5_expect : Cond.code (zm_X5_expect).1 (zm_X5_expect).2.1 (zm_X5_expect).2.2.1 (zm_X5_expect).2.2.2 ∈ zTb := zt_3 168 rfl rfl
theorem zv_X5_expect : zCV zm_X5_expect := ⟨zt_3 167 (by decide +kernel) rfl, zt_0 13 (by decide +kernel) rfl⟩
abbrev zm_X5_readSaying : zY := (yX5_readSaying, cX5_readSaying, 1, none)
set_option maxRecDepth 40000 in
theorem zk_X5_readSaying : Cond.code (zm_X5_readSaying).1 (zm_X5_readSaying).2.1 (zm_X5_readSaying).2.2.1 (zm_X5_readSaying).2.2.2 ∈ zTb := zt_3 172 rfl rfl
theorem zv_X5_readSaying : zCV zm_X5_readSaying := ⟨zt_3 171 (by decide +kernel) rfl, zt_0 14 (by decide +kernel) rfl⟩
abbrev zm_X5_readPart : zY := (yX5_readPart, cX5_readPart, 7, none)
set_option maxRecDepth 40000 in
theorem zk_X5_readPart : Cond.code (zm_X5_readPart).1 (zm_X5_readPart).2.1 (zm_X5_readPart).2.2.1 (zm_X5_readPart).2.2.2 ∈ zTb := zt_3 176 rfl rfl
theorem zv_X5_readPart : zCV zm_X5_readPart := ⟨zt_3 175 (by decide +kernel) rfl, zt_0 15 (by decide +kernel) rfl⟩
abbrev zm_X0_add : zY := (yX0_add, cX0_add, 3, none)
set_option maxRecDepth 40000 in
theorem zk_X0_add : Cond.code (zm_X0_add).1 (zm_X0_add).2.1 (zm_X0_add).2.2.1 (zm_X0_add).2.2.2 ∈ zTb := zt_3 180 rfl rfl
theorem zv_X0_add : zCV zm_X0_add := ⟨zt_3 178 (by decide +kernel) rfl, zt_3 179 (by decide +kernel) rfl⟩
abbrev zm_X5_readUnit : zY := (yX5_readUnit, cX5_readUnit, 5, none)
set_option maxRecDepth 40000 in
theorem zk_X5_readUnit : Cond.code (zm_X5_readUnit).1 (zm_X5_readUnit).2.1 (zm_X5_readUnit).2.2.1 (zm_X5_readUnit).2.2.2 ∈ zTb := zt_3 184 rfl rfl
theorem zv_X5_readUnit : zCV zm_X5_readUnit := ⟨zt_3 183 (by decide +kernel) rfl, zt_0 16 (by decide +kernel) rfl⟩
abbrev zm_X3_opens : zY := (yX3_opens, cX3_opens, 1, (some .boolean))
set_option maxRecDepth 40000 in
theorem zk_X3_opens : Cond.code (zm_X3_opens).1 (zm_X3_opens).2.1 (zm_X3_opens).2.2.1 (zm_X3_opens).2.2.2 ∈ zTb := zt_3 187 rfl rfl
theorem zs_X3_opens : Cond.static (zm_X3_opens).1 ∈ zTb := zt_3 186 (by decide +kernel) rfl
abbrev zm_X3_startsUnit : zY := (yX3_startsUnit, cX3_startsUnit, 1, (some .boolean))
set_option maxRecDepth 40000 in
theorem zk_X3_startsUnit : Cond.code (zm_X3_startsUnit).1 (zm_X3_startsUnit).2.1 (zm_X3_startsUnit).2.2.1 (zm_X3_startsUnit).2.2.2 ∈ zTb := zt_3 190 rfl rfl
theorem zs_X3_startsUnit : Cond.static (zm_X3_startsUnit).1 ∈ zTb := zt_3 189 (by decide +kernel) rfl
abbrev zm_X3_isLeaf : zY := (yX3_isLeaf, cX3_isLeaf, 1, (some .boolean))
set_option maxRecDepth 40000 in
theorem zk_X3_isLeaf : Cond.code (zm_X3_isLeaf).1 (zm_X3_isLeaf).2.1 (zm_X3_isLeaf).2.2.1 (zm_X3_isLeaf).2.2.2 ∈ zTb := zt_3 193 rfl rfl
theorem zs_X3_isLeaf : Cond.static (zm_X3_isLeaf).1 ∈ zTb := zt_3 192 (by decide +kernel) rfl
abbrev zm_X3_rankOf : zY := (yX3_rankOf, cX3_rankOf, 1, (some .int))
set_option maxRecDepth 40000 in
theorem zk_X3_rankOf : Cond.code (zm_X3_rankOf).1 (zm_X3_rankOf).2.1 (zm_X3_rankOf).2.2.1 (zm_X3_rankOf).2.2.2 ∈ zTb := zt_3 198 rfl rfl
theorem zs_X3_rankOf : Cond.static (zm_X3_rankOf).1 ∈ zTb := zt_3 197 (by decide +kernel) rfl
abbrev zm_X2_endSaying : zY := (yX2_endSaying, cX2_endSaying, 1, none)
set_option maxRecDepth 40000 in
theorem zk_X2_endSaying : Cond.code (zm_X2_endSaying).1 (zm_X2_endSaying).2.1 (zm_X2_endSaying).2.2.1 (zm_X2_endSaying).2.2.2 ∈ zTb := zt_3 202 rfl rfl
theorem zv_X2_endSaying : zCV zm_X2_endSaying := ⟨zt_3 200 (by decide +kernel) rfl, zt_3 201 (by decide +kernel) rfl⟩
abbrev zm_X11_fault : zY := (yX11_fault, cX11_fault, 2, (some .int))
set_option maxRecDepth 40000 in
theorem zk_X11_fault : Cond.code (zm_X11_fault).1 (zm_X11_fault).2.1 (zm_X11_fault).2.2.1 (zm_X11_fault).2.2.2 ∈ zTb := zt_3 206 rfl rfl
theorem zv_X11_fault : zCV zm_X11_fault := ⟨zt_3 204 (by decide +kernel) rfl, zt_3 205 (by decide +kernel) rfl⟩
abbrev zm_X11_sees : zY := (yX11_sees, cX11_sees, 2, (some .int))
set_option maxRecDepth 40000 in
theorem zk_X11_sees : Cond.code (zm_X11_sees).1 (zm_X11_sees).2.1 (zm_X11_sees).2.2.1 (zm_X11_sees).2.2.2 ∈ zTb := zt_3 210 rfl rfl
theorem zv_X11_sees : zCV zm_X11_sees := ⟨zt_3 208 (by decide +kernel) rfl, zt_3 209 (by decide +kernel) rfl⟩
abbrev zm_X11_worlds : zY := (yX11_worlds, cX11_worlds, 1, (some .int))
set_option maxRecDepth 40000 in
theorem zk_X11_worlds : Cond.code (zm_X11_worlds).1 (zm_X11_worlds).2.1 (zm_X11_worlds).2.2.1 (zm_X11_worlds).2.2.2 ∈ zTb := zt_3 215 rfl rfl
theorem zv_X11_worlds : zCV zm_X11_worlds := ⟨zt_3 213 (by decide +kernel) rfl, zt_3 214 (by decide +kernel) rfl⟩
abbrev zm_X11_possible : zY := (yX11_possible, cX11_possible, 2, (some .int))
set_option maxRecDepth 40000 in
theorem zk_X11_possible : Cond.code (zm_X11_possible).1 (zm_X11_possible).2.1 (zm_X11_possible).2.2.1 (zm_X11_possible).2.2.2 ∈ zTb := zt_3 219 rfl rfl
theorem zv_X11_possible : zCV zm_X11_possible := ⟨zt_3 217 (by decide +kernel) rfl, zt_3 218 (by decide +kernel) rfl⟩
abbrev zm_X2_isWorld : zY := (yX2_isWorld, cX2_isWorld, 2, (some .boolean))
set_option maxRecDepth 40000 in
theorem zk_X2_isWorld : Cond.code (zm_X2_isWorld).1 (zm_X2_isWorld).2.1 (zm_X2_isWorld).2.2.1 (zm_X2_isWorld).2.2.2 ∈ zTb := zt_3 223 rfl rfl
theorem zv_X2_isWorld : zCV zm_X2_isWorld := ⟨zt_3 221 (by decide +kernel) rfl, zt_3 222 (by decide +kernel) rfl⟩
abbrev zm_X6_contains : zY := (yX6_contains, cX6_contains, 3, (some .boolean))
set_option maxRecDepth 40000 in
theorem zk_X6_contains : Cond.code (zm_X6_contains).1 (zm_X6_contains).2.1 (zm_X6_contains).2.2.1 (zm_X6_contains).2.2.2 ∈ zTb := zt_3 228 rfl rfl
theorem zv_X6_contains : zCV zm_X6_contains := ⟨zt_3 226 (by decide +kernel) rfl, zt_3 227 (by decide +kernel) rfl⟩
abbrev zm_X11_like : zY := (yX11_like, cX11_like, 4, (some .int))
set_option maxRecDepth 40000 in
theorem zk_X11_like : Cond.code (zm_X11_like).1 (zm_X11_like).2.1 (zm_X11_like).2.2.1 (zm_X11_like).2.2.2 ∈ zTb := zt_3 232 rfl rfl
theorem zv_X11_like : zCV zm_X11_like := ⟨zt_3 230 (by decide +kernel) rfl, zt_3 231 (by decide +kernel) rfl⟩
abbrev zm_X10_areAlike : zY := (yX10_areAlike, cX10_areAlike, 4, (some .boolean))
set_option maxRecDepth 40000 in
theorem zk_X10_areAlike : Cond.code (zm_X10_areAlike).1 (zm_X10_areAlike).2.1 (zm_X10_areAlike).2.2.1 (zm_X10_areAlike).2.2.2 ∈ zTb := zt_3 236 rfl rfl
theorem zv_X10_areAlike : zCV zm_X10_areAlike := ⟨zt_3 234 (by decide +kernel) rfl, zt_3 235 (by decide +kernel) rfl⟩
abbrev zm_X10_of : zY := (yX10_of, cX10_of, 2, (some (.array .int)))
set_option maxRecDepth 40000 in
theorem zk_X10_of : Cond.code (zm_X10_of).1 (zm_X10_of).2.1 (zm_X10_of).2.2.1 (zm_X10_of).2.2.2 ∈ zTb := zt_4 0 rfl rfl
theorem zv_X10_of : zCV zm_X10_of := ⟨zt_3 238 (by decide +kernel) rfl, zt_3 239 (by decide +kernel) rfl⟩
abbrev zm_X11_own : zY := (yX11_own, cX11_own, 2, (some .int))
set_option maxRecDepth 40000 in
theorem zk_X11_own : Cond.code (zm_X11_own).1 (zm_X11_own).2.1 (zm_X11_own).2.2.1 (zm_X11_own).2.2.2 ∈ zTb := zt_4 4 rfl rfl
theorem zv_X11_own : zCV zm_X11_own := ⟨zt_4 2 (by decide +kernel) rfl, zt_4 3 (by decide +kernel) rfl⟩
abbrev zm_X4_ownMark : zY := (yX4_ownMark, cX4_ownMark, 4, (some .int))
set_option maxRecDepth 40000 in
theorem zk_X4_ownMark : Cond.code (zm_X4_ownMark).1 (zm_X4_ownMark).2.1 (zm_X4_ownMark).2.2.1 (zm_X4_ownMark).2.2.2 ∈ zTb := zt_4 8 rfl rfl
theorem zv_X4_ownMark : zCV zm_X4_ownMark := ⟨zt_4 6 (by decide +kernel) rfl, zt_4 7 (by decide +kernel) rfl⟩
abbrev zm_X4_markOwn : zY := (yX4_markOwn, cX4_markOwn, 6, none)
set_option maxRecDepth 40000 in
theorem zk_X4_markOwn : Cond.code (zm_X4_markOwn).1 (zm_X4_markOwn).2.1 (zm_X4_markOwn).2.2.1 (zm_X4_markOwn).2.2.2 ∈ zTb := zt_4 13 rfl rfl
theorem zv_X4_markOwn : zCV zm_X4_markOwn := ⟨zt_4 12 (by decide +kernel) rfl, zt_0 17 (by decide +kernel) rfl⟩
abbrev zm_X11_ask : zY := (yX11_ask, cX11_ask, 1, (some .int))
set_option maxRecDepth 40000 in
theorem zk_X11_ask : Cond.code (zm_X11_ask).1 (zm_X11_ask).2.1 (zm_X11_ask).2.2.1 (zm_X11_ask).2.2.2 ∈ zTb := zt_4 17 rfl rfl
theorem zv_X11_ask : zCV zm_X11_ask := ⟨zt_4 15 (by decide +kernel) rfl, zt_4 16 (by decide +kernel) rfl⟩
abbrev zm_X11_weighTape : zY := (yX11_weighTape, cX11_weighTape, 2, (some .boolean))
set_option maxRecDepth 40000 in
theorem zk_X11_weighTape : Cond.code (zm_X11_weighTape).1 (zm_X11_weighTape).2.1 (zm_X11_weighTape).2.2.1 (zm_X11_weighTape).2.2.2 ∈ zTb := zt_4 21 rfl rfl
theorem zv_X11_weighTape : zCV zm_X11_weighTape := ⟨zt_4 20 (by decide +kernel) rfl, zt_0 18 (by decide +kernel) rfl⟩
abbrev zm_X5_readFormula : zY := (yX5_readFormula, cX5_readFormula, 3, (some .boolean))
set_option maxRecDepth 40000 in
theorem zk_X5_readFormula : Cond.code (zm_X5_readFormula).1 (zm_X5_readFormula).2.1 (zm_X5_readFormula).2.2.1 (zm_X5_readFormula).2.2.2 ∈ zTb := zt_4 25 rfl rfl
theorem zv_X5_readFormula : zCV zm_X5_readFormula := ⟨zt_4 23 (by decide +kernel) rfl, zt_4 24 (by decide +kernel) rfl⟩
abbrev zm_X4_weigh : zY := (yX4_weigh, cX4_weigh, 8, none)
set_option maxRecDepth 40000 in
theorem zk_X4_weigh : Cond.code (zm_X4_weigh).1 (zm_X4_weigh).2.1 (zm_X4_weigh).2.2.1 (zm_X4_weigh).2.2.2 ∈ zTb := zt_4 29 rfl rfl
theorem zv_X4_weigh : zCV zm_X4_weigh := ⟨zt_4 27 (by decide +kernel) rfl, zt_4 28 (by decide +kernel) rfl⟩
abbrev zm_X0_kindAt : zY := (yX0_kindAt, cX0_kindAt, 2, (some .int))
set_option maxRecDepth 40000 in
theorem zk_X0_kindAt : Cond.code (zm_X0_kindAt).1 (zm_X0_kindAt).2.1 (zm_X0_kindAt).2.2.1 (zm_X0_kindAt).2.2.2 ∈ zTb := zt_4 33 rfl rfl
theorem zv_X0_kindAt : zCV zm_X0_kindAt := ⟨zt_4 31 (by decide +kernel) rfl, zt_4 32 (by decide +kernel) rfl⟩
abbrev zm_X0_ofAt : zY := (yX0_ofAt, cX0_ofAt, 2, (some .int))
set_option maxRecDepth 40000 in
theorem zk_X0_ofAt : Cond.code (zm_X0_ofAt).1 (zm_X0_ofAt).2.1 (zm_X0_ofAt).2.2.1 (zm_X0_ofAt).2.2.2 ∈ zTb := zt_4 38 rfl rfl
theorem zv_X0_ofAt : zCV zm_X0_ofAt := ⟨zt_4 36 (by decide +kernel) rfl, zt_4 37 (by decide +kernel) rfl⟩
abbrev zm_X4_pushLeaf : zY := (yX4_pushLeaf, cX4_pushLeaf, 7, none)
set_option maxRecDepth 40000 in
theorem zk_X4_pushLeaf : Cond.code (zm_X4_pushLeaf).1 (zm_X4_pushLeaf).2.1 (zm_X4_pushLeaf).2.2.1 (zm_X4_pushLeaf).2.2.2 ∈ zTb := zt_4 42 rfl rfl
theorem zv_X4_pushLeaf : zCV zm_X4_pushLeaf := ⟨zt_4 41 (by decide +kernel) rfl, zt_0 19 (by decide +kernel) rfl⟩
abbrev zm_X4_leaf : zY := (yX4_leaf, cX4_leaf, 4, (some .int))
set_option maxRecDepth 40000 in
theorem zk_X4_leaf : Cond.code (zm_X4_leaf).1 (zm_X4_leaf).2.1 (zm_X4_leaf).2.2.1 (zm_X4_leaf).2.2.2 ∈ zTb := zt_4 45 rfl rfl
theorem zs_X4_leaf : Cond.static (zm_X4_leaf).1 ∈ zTb := zt_4 44 (by decide +kernel) rfl
abbrev zm_J6_bitCount_0f7a4 : zY := (yJ6_bitCount_0f7a4, cJ6_bitCount_0f7a4, 1, (some .int))
set_option maxRecDepth 40000 in
theorem zk_J6_bitCount_0f7a4 : Cond.code (zm_J6_bitCount_0f7a4).1 (zm_J6_bitCount_0f7a4).2.1 (zm_J6_bitCount_0f7a4).2.2.1 (zm_J6_bitCount_0f7a4).2.2.2 ∈ zTb := zt_4 48 rfl rfl
theorem zs_J6_bitCount_0f7a4 : Cond.static (zm_J6_bitCount_0f7a4).1 ∈ zTb := zt_4 47 (by decide +kernel) rfl
abbrev zm_X4_joinTop : zY := (yX4_joinTop, cX4_joinTop, 7, none)
set_option maxRecDepth 40000 in
theorem zk_X4_joinTop : Cond.code (zm_X4_joinTop).1 (zm_X4_joinTop).2.1 (zm_X4_joinTop).2.2.1 (zm_X4_joinTop).2.2.2 ∈ zTb := zt_4 56 rfl rfl
theorem zv_X4_joinTop : zCV zm_X4_joinTop := ⟨zt_4 55 (by decide +kernel) rfl, zt_0 20 (by decide +kernel) rfl⟩
abbrev zm_X4_joined : zY := (yX4_joined, cX4_joined, 3, (some .int))
set_option maxRecDepth 40000 in
theorem zk_X4_joined : Cond.code (zm_X4_joined).1 (zm_X4_joined).2.1 (zm_X4_joined).2.2.1 (zm_X4_joined).2.2.2 ∈ zTb := zt_4 59 rfl rfl
theorem zs_X4_joined : Cond.static (zm_X4_joined).1 ∈ zTb := zt_4 58 (by decide +kernel) rfl
abbrev zm_X4_negate : zY := (yX4_negate, cX4_negate, 4, none)
set_option maxRecDepth 40000 in
theorem zk_X4_negate : Cond.code (zm_X4_negate).1 (zm_X4_negate).2.1 (zm_X4_negate).2.2.1 (zm_X4_negate).2.2.2 ∈ zTb := zt_4 62 rfl rfl
theorem zs_X4_negate : Cond.static (zm_X4_negate).1 ∈ zTb := zt_4 61 (by decide +kernel) rfl
abbrev zm_X4_knowsOne : zY := (yX4_knowsOne, cX4_knowsOne, 7, none)
set_option maxRecDepth 40000 in
theorem zk_X4_knowsOne : Cond.code (zm_X4_knowsOne).1 (zm_X4_knowsOne).2.1 (zm_X4_knowsOne).2.2.1 (zm_X4_knowsOne).2.2.2 ∈ zTb := zt_4 66 rfl rfl
theorem zv_X4_knowsOne : zCV zm_X4_knowsOne := ⟨zt_4 65 (by decide +kernel) rfl, zt_0 21 (by decide +kernel) rfl⟩
abbrev zm_X4_markKnown : zY := (yX4_markKnown, cX4_markKnown, 6, none)
set_option maxRecDepth 40000 in
theorem zk_X4_markKnown : Cond.code (zm_X4_markKnown).1 (zm_X4_markKnown).2.1 (zm_X4_markKnown).2.2.1 (zm_X4_markKnown).2.2.2 ∈ zTb := zt_4 70 rfl rfl
theorem zv_X4_markKnown : zCV zm_X4_markKnown := ⟨zt_4 69 (by decide +kernel) rfl, zt_0 22 (by decide +kernel) rfl⟩
abbrev zm_X4_knowAll : zY := (yX4_knowAll, cX4_knowAll, 7, none)
set_option maxRecDepth 40000 in
theorem zk_X4_knowAll : Cond.code (zm_X4_knowAll).1 (zm_X4_knowAll).2.1 (zm_X4_knowAll).2.2.1 (zm_X4_knowAll).2.2.2 ∈ zTb := zt_4 74 rfl rfl
theorem zv_X4_knowAll : zCV zm_X4_knowAll := ⟨zt_4 73 (by decide +kernel) rfl, zt_0 23 (by decide +kernel) rfl⟩
abbrev zm_J7_fill_53178 : zY := (yJ7_fill_53178, cJ7_fill_53178, 4, none)
set_option maxRecDepth 40000 in
theorem zk_J7_fill_53178 : Cond.code (zm_J7_fill_53178).1 (zm_J7_fill_53178).2.1 (zm_J7_fill_53178).2.2.1 (zm_J7_fill_53178).2.2.2 ∈ zTb := zt_4 77 rfl rfl
theorem zs_J7_fill_53178 : Cond.static (zm_J7_fill_53178).1 ∈ zTb := zt_4 76 (by decide +kernel) rfl
abbrev zm_X4_knowInCommon : zY := (yX4_knowInCommon, cX4_knowInCommon, 5, none)
set_option maxRecDepth 40000 in
theorem zk_X4_knowInCommon : Cond.code (zm_X4_knowInCommon).1 (zm_X4_knowInCommon).2.1 (zm_X4_knowInCommon).2.2.1 (zm_X4_knowInCommon).2.2.2 ∈ zTb := zt_4 84 rfl rfl
theorem zv_X4_knowInCommon : zCV zm_X4_knowInCommon := ⟨zt_4 83 (by decide +kernel) rfl, zt_0 24 (by decide +kernel) rfl⟩
abbrev zm_X4_linkGroups : zY := (yX4_linkGroups, cX4_linkGroups, 9, none)
set_option maxRecDepth 40000 in
theorem zk_X4_linkGroups : Cond.code (zm_X4_linkGroups).1 (zm_X4_linkGroups).2.1 (zm_X4_linkGroups).2.2.1 (zm_X4_linkGroups).2.2.2 ∈ zTb := zt_4 88 rfl rfl
theorem zv_X4_linkGroups : zCV zm_X4_linkGroups := ⟨zt_4 87 (by decide +kernel) rfl, zt_0 25 (by decide +kernel) rfl⟩
abbrev zm_X4_rootOf : zY := (yX4_rootOf, cX4_rootOf, 4, (some .int))
set_option maxRecDepth 40000 in
theorem zk_X4_rootOf : Cond.code (zm_X4_rootOf).1 (zm_X4_rootOf).2.1 (zm_X4_rootOf).2.2.1 (zm_X4_rootOf).2.2.2 ∈ zTb := zt_4 92 rfl rfl
theorem zv_X4_rootOf : zCV zm_X4_rootOf := ⟨zt_4 91 (by decide +kernel) rfl, zt_0 26 (by decide +kernel) rfl⟩
abbrev zm_X4_result : zY := (yX4_result, cX4_result, 1, (some (.array .int)))
set_option maxRecDepth 40000 in
theorem zk_X4_result : Cond.code (zm_X4_result).1 (zm_X4_result).2.1 (zm_X4_result).2.2.1 (zm_X4_result).2.2.2 ∈ zTb := zt_4 98 rfl rfl
theorem zv_X4_result : zCV zm_X4_result := ⟨zt_4 96 (by decide +kernel) rfl, zt_4 97 (by decide +kernel) rfl⟩
abbrev zm_X11_holds : zY := (yX11_holds, cX11_holds, 1, (some .int))
set_option maxRecDepth 40000 in
theorem zk_X11_holds : Cond.code (zm_X11_holds).1 (zm_X11_holds).2.1 (zm_X11_holds).2.2.1 (zm_X11_holds).2.2.2 ∈ zTb := zt_4 103 rfl rfl
theorem zv_X11_holds : zCV zm_X11_holds := ⟨zt_4 101 (by decide +kernel) rfl, zt_4 102 (by decide +kernel) rfl⟩
abbrev zm_X6_countSo : zY := (yX6_countSo, cX6_countSo, 4, (some .int))
set_option maxRecDepth 40000 in
theorem zk_X6_countSo : Cond.code (zm_X6_countSo).1 (zm_X6_countSo).2.1 (zm_X6_countSo).2.2.1 (zm_X6_countSo).2.2.2 ∈ zTb := zt_4 107 rfl rfl
theorem zv_X6_countSo : zCV zm_X6_countSo := ⟨zt_4 105 (by decide +kernel) rfl, zt_4 106 (by decide +kernel) rfl⟩
abbrev zm_X11_deep : zY := (yX11_deep, cX11_deep, 1, (some .int))
set_option maxRecDepth 40000 in
theorem zk_X11_deep : Cond.code (zm_X11_deep).1 (zm_X11_deep).2.1 (zm_X11_deep).2.2.1 (zm_X11_deep).2.2.2 ∈ zTb := zt_4 111 rfl rfl
theorem zv_X11_deep : zCV zm_X11_deep := ⟨zt_4 109 (by decide +kernel) rfl, zt_4 110 (by decide +kernel) rfl⟩
abbrev zm_X4_depth : zY := (yX4_depth, cX4_depth, 6, (some .int))
set_option maxRecDepth 40000 in
theorem zk_X4_depth : Cond.code (zm_X4_depth).1 (zm_X4_depth).2.1 (zm_X4_depth).2.2.1 (zm_X4_depth).2.2.2 ∈ zTb := zt_4 115 rfl rfl
theorem zv_X4_depth : zCV zm_X4_depth := ⟨zt_4 113 (by decide +kernel) rfl, zt_4 114 (by decide +kernel) rfl⟩
abbrev zm_X11_say : zY := (yX11_say, cX11_say, 1, (some .int))
set_option maxRecDepth 40000 in
theorem zk_X11_say : Cond.code (zm_X11_say).1 (zm_X11_say).2.1 (zm_X11_say).2.2.1 (zm_X11_say).2.2.2 ∈ zTb := zt_4 119 rfl rfl
theorem zv_X11_say : zCV zm_X11_say := ⟨zt_4 117 (by decide +kernel) rfl, zt_4 118 (by decide +kernel) rfl⟩
abbrev zm_X6_hear : zY := (yX6_hear, cX6_hear, 2, (some .int))
set_option maxRecDepth 40000 in
theorem zk_X6_hear : Cond.code (zm_X6_hear).1 (zm_X6_hear).2.1 (zm_X6_hear).2.2.1 (zm_X6_hear).2.2.2 ∈ zTb := zt_4 123 rfl rfl
theorem zv_X6_hear : zCV zm_X6_hear := ⟨zt_4 121 (by decide +kernel) rfl, zt_4 122 (by decide +kernel) rfl⟩
abbrev zm_X6_keepSo : zY := (yX6_keepSo, cX6_keepSo, 4, (some .int))
set_option maxRecDepth 40000 in
theorem zk_X6_keepSo : Cond.code (zm_X6_keepSo).1 (zm_X6_keepSo).2.1 (zm_X6_keepSo).2.2.1 (zm_X6_keepSo).2.2.2 ∈ zTb := zt_4 127 rfl rfl
theorem zv_X6_keepSo : zCV zm_X6_keepSo := ⟨zt_4 125 (by decide +kernel) rfl, zt_4 126 (by decide +kernel) rfl⟩
abbrev zm_X11_saying : zY := (yX11_saying, cX11_saying, 2, (some .int))
set_option maxRecDepth 40000 in
theorem zk_X11_saying : Cond.code (zm_X11_saying).1 (zm_X11_saying).2.1 (zm_X11_saying).2.2.1 (zm_X11_saying).2.2.2 ∈ zTb := zt_4 131 rfl rfl
theorem zv_X11_saying : zCV zm_X11_saying := ⟨zt_4 129 (by decide +kernel) rfl, zt_4 130 (by decide +kernel) rfl⟩
abbrev zm_X4_weighSaying : zY := (yX4_weighSaying, cX4_weighSaying, 4, none)
set_option maxRecDepth 40000 in
theorem zk_X4_weighSaying : Cond.code (zm_X4_weighSaying).1 (zm_X4_weighSaying).2.1 (zm_X4_weighSaying).2.2.1 (zm_X4_weighSaying).2.2.2 ∈ zTb := zt_4 135 rfl rfl
theorem zv_X4_weighSaying : zCV zm_X4_weighSaying := ⟨zt_4 133 (by decide +kernel) rfl, zt_4 134 (by decide +kernel) rfl⟩
abbrev zm_X11_whisper : zY := (yX11_whisper, cX11_whisper, 4, (some .int))
set_option maxRecDepth 40000 in
theorem zk_X11_whisper : Cond.code (zm_X11_whisper).1 (zm_X11_whisper).2.1 (zm_X11_whisper).2.2.1 (zm_X11_whisper).2.2.2 ∈ zTb := zt_4 140 rfl rfl
theorem zv_X11_whisper : zCV zm_X11_whisper := ⟨zt_4 138 (by decide +kernel) rfl, zt_4 139 (by decide +kernel) rfl⟩
abbrev zm_X2_arePeople : zY := (yX2_arePeople, cX2_arePeople, 2, (some .boolean))
set_option maxRecDepth 40000 in
theorem zk_X2_arePeople : Cond.code (zm_X2_arePeople).1 (zm_X2_arePeople).2.1 (zm_X2_arePeople).2.2.1 (zm_X2_arePeople).2.2.2 ∈ zTb := zt_4 144 rfl rfl
theorem zv_X2_arePeople : zCV zm_X2_arePeople := ⟨zt_4 142 (by decide +kernel) rfl, zt_4 143 (by decide +kernel) rfl⟩
abbrev zm_X10_split : zY := (yX10_split, cX10_split, 8, none)
set_option maxRecDepth 40000 in
theorem zk_X10_split : Cond.code (zm_X10_split).1 (zm_X10_split).2.1 (zm_X10_split).2.2.1 (zm_X10_split).2.2.2 ∈ zTb := zt_4 148 rfl rfl
theorem zv_X10_split : zCV zm_X10_split := ⟨zt_4 146 (by decide +kernel) rfl, zt_4 147 (by decide +kernel) rfl⟩
abbrev zm_X11_night : zY := (yX11_night, cX11_night, 1, (some .int))
set_option maxRecDepth 40000 in
theorem zk_X11_night : Cond.code (zm_X11_night).1 (zm_X11_night).2.1 (zm_X11_night).2.2.1 (zm_X11_night).2.2.2 ∈ zTb := zt_4 153 rfl rfl
theorem zv_X11_night : zCV zm_X11_night := ⟨zt_4 151 (by decide +kernel) rfl, zt_4 152 (by decide +kernel) rfl⟩
abbrev zm_X4_pass : zY := (yX4_pass, cX4_pass, 3, (some .int))
set_option maxRecDepth 40000 in
theorem zk_X4_pass : Cond.code (zm_X4_pass).1 (zm_X4_pass).2.1 (zm_X4_pass).2.2.1 (zm_X4_pass).2.2.2 ∈ zTb := zt_4 157 rfl rfl
theorem zv_X4_pass : zCV zm_X4_pass := ⟨zt_4 155 (by decide +kernel) rfl, zt_4 156 (by decide +kernel) rfl⟩
abbrev zm_X4_findGoers : zY := (yX4_findGoers, cX4_findGoers, 8, (some (.array .int)))
set_option maxRecDepth 40000 in
theorem zk_X4_findGoers : Cond.code (zm_X4_findGoers).1 (zm_X4_findGoers).2.1 (zm_X4_findGoers).2.2.1 (zm_X4_findGoers).2.2.2 ∈ zTb := zt_4 161 rfl rfl
theorem zv_X4_findGoers : zCV zm_X4_findGoers := ⟨zt_4 159 (by decide +kernel) rfl, zt_4 160 (by decide +kernel) rfl⟩
abbrev zm_X6_keepEqual : zY := (yX6_keepEqual, cX6_keepEqual, 5, none)
set_option maxRecDepth 40000 in
theorem zk_X6_keepEqual : Cond.code (zm_X6_keepEqual).1 (zm_X6_keepEqual).2.1 (zm_X6_keepEqual).2.2.1 (zm_X6_keepEqual).2.2.2 ∈ zTb := zt_4 165 rfl rfl
theorem zv_X6_keepEqual : zCV zm_X6_keepEqual := ⟨zt_4 163 (by decide +kernel) rfl, zt_4 164 (by decide +kernel) rfl⟩
abbrev zm_X11_gone : zY := (yX11_gone, cX11_gone, 1, (some .int))
set_option maxRecDepth 40000 in
theorem zk_X11_gone : Cond.code (zm_X11_gone).1 (zm_X11_gone).2.1 (zm_X11_gone).2.2.1 (zm_X11_gone).2.2.2 ∈ zTb := zt_4 169 rfl rfl
theorem zv_X11_gone : zCV zm_X11_gone := ⟨zt_4 167 (by decide +kernel) rfl, zt_4 168 (by decide +kernel) rfl⟩
abbrev zm_X11_when : zY := (yX11_when, cX11_when, 5, (some .int))
set_option maxRecDepth 40000 in
theorem zk_X11_when : Cond.code (zm_X11_when).1 (zm_X11_when).2.1 (zm_X11_when).2.2.1 (zm_X11_when).2.2.2 ∈ zTb := zt_4 173 rfl rfl
theorem zv_X11_when : zCV zm_X11_when := ⟨zt_4 171 (by decide +kernel) rfl, zt_4 172 (by decide +kernel) rfl⟩
abbrev zm_X6_follow : zY := (yX6_follow, cX6_follow, 2, none)
set_option maxRecDepth 40000 in
theorem zk_X6_follow : Cond.code (zm_X6_follow).1 (zm_X6_follow).2.1 (zm_X6_follow).2.2.1 (zm_X6_follow).2.2.2 ∈ zTb := zt_4 177 rfl rfl
theorem zv_X6_follow : zCV zm_X6_follow := ⟨zt_4 175 (by decide +kernel) rfl, zt_4 176 (by decide +kernel) rfl⟩
abbrev zm_X11_fewest : zY := (yX11_fewest, cX11_fewest, 8, (some .int))
set_option maxRecDepth 40000 in
theorem zk_X11_fewest : Cond.code (zm_X11_fewest).1 (zm_X11_fewest).2.1 (zm_X11_fewest).2.2.1 (zm_X11_fewest).2.2.2 ∈ zTb := zt_4 182 rfl rfl
theorem zv_X11_fewest : zCV zm_X11_fewest := ⟨zt_4 180 (by decide +kernel) rfl, zt_4 181 (by decide +kernel) rfl⟩
abbrev zm_X11_trySayings : zY := (yX11_trySayings, cX11_trySayings, 6, (some .long))
set_option maxRecDepth 40000 in
theorem zk_X11_trySayings : Cond.code (zm_X11_trySayings).1 (zm_X11_trySayings).2.1 (zm_X11_trySayings).2.2.1 (zm_X11_trySayings).2.2.2 ∈ zTb := zt_4 186 rfl rfl
theorem zv_X11_trySayings : zCV zm_X11_trySayings := ⟨zt_4 185 (by decide +kernel) rfl, zt_0 27 (by decide +kernel) rfl⟩
abbrev zm_J7_fill_d0a16 : zY := (yJ7_fill_d0a16, cJ7_fill_d0a16, 5, none)
set_option maxRecDepth 40000 in
theorem zk_J7_fill_d0a16 : Cond.code (zm_J7_fill_d0a16).1 (zm_J7_fill_d0a16).2.1 (zm_J7_fill_d0a16).2.2.1 (zm_J7_fill_d0a16).2.2.2 ∈ zTb := zt_4 189 rfl rfl
theorem zs_J7_fill_d0a16 : Cond.static (zm_J7_fill_d0a16).1 ∈ zTb := zt_4 188 (by decide +kernel) rfl
abbrev zm_X6_note : zY := (yX6_note, cX6_note, 4, none)
set_option maxRecDepth 40000 in
theorem zk_X6_note : Cond.code (zm_X6_note).1 (zm_X6_note).2.1 (zm_X6_note).2.2.1 (zm_X6_note).2.2.2 ∈ zTb := zt_4 193 rfl rfl
theorem zv_X6_note : zCV zm_X6_note := ⟨zt_4 191 (by decide +kernel) rfl, zt_4 192 (by decide +kernel) rfl⟩
abbrev zm_X11_takeLeft : zY := (yX11_takeLeft, cX11_takeLeft, 2, none)
set_option maxRecDepth 40000 in
theorem zk_X11_takeLeft : Cond.code (zm_X11_takeLeft).1 (zm_X11_takeLeft).2.1 (zm_X11_takeLeft).2.2.1 (zm_X11_takeLeft).2.2.2 ∈ zTb := zt_4 197 rfl rfl
theorem zv_X11_takeLeft : zCV zm_X11_takeLeft := ⟨zt_4 196 (by decide +kernel) rfl, zt_0 28 (by decide +kernel) rfl⟩
abbrev zm_X6_keepNoted : zY := (yX6_keepNoted, cX6_keepNoted, 5, none)
set_option maxRecDepth 40000 in
theorem zk_X6_keepNoted : Cond.code (zm_X6_keepNoted).1 (zm_X6_keepNoted).2.1 (zm_X6_keepNoted).2.2.1 (zm_X6_keepNoted).2.2.2 ∈ zTb := zt_4 201 rfl rfl
theorem zv_X6_keepNoted : zCV zm_X6_keepNoted := ⟨zt_4 199 (by decide +kernel) rfl, zt_4 200 (by decide +kernel) rfl⟩
abbrev zm_X11_goJust : zY := (yX11_goJust, cX11_goJust, 8, (some .boolean))
set_option maxRecDepth 40000 in
theorem zk_X11_goJust : Cond.code (zm_X11_goJust).1 (zm_X11_goJust).2.1 (zm_X11_goJust).2.2.1 (zm_X11_goJust).2.2.2 ∈ zTb := zt_4 206 rfl rfl
theorem zv_X11_goJust : zCV zm_X11_goJust := ⟨zt_4 205 (by decide +kernel) rfl, zt_0 29 (by decide +kernel) rfl⟩
abbrev zm_X11_sight : zY := (yX11_sight, cX11_sight, 4, (some .int))
set_option maxRecDepth 40000 in
theorem zk_X11_sight : Cond.code (zm_X11_sight).1 (zm_X11_sight).2.1 (zm_X11_sight).2.2.1 (zm_X11_sight).2.2.2 ∈ zTb := zt_4 210 rfl rfl
theorem zv_X11_sight : zCV zm_X11_sight := ⟨zt_4 208 (by decide +kernel) rfl, zt_4 209 (by decide +kernel) rfl⟩
abbrev zm_X7_tell : zY := (yX7_tell, cX7_tell, 4, (some .int))
set_option maxRecDepth 40000 in
theorem zk_X7_tell : Cond.code (zm_X7_tell).1 (zm_X7_tell).2.1 (zm_X7_tell).2.2.1 (zm_X7_tell).2.2.2 ∈ zTb := zt_4 214 rfl rfl
theorem zv_X7_tell : zCV zm_X7_tell := ⟨zt_4 212 (by decide +kernel) rfl, zt_4 213 (by decide +kernel) rfl⟩
abbrev zm_X11_untell : zY := (yX11_untell, cX11_untell, 2, (some .boolean))
set_option maxRecDepth 40000 in
theorem zk_X11_untell : Cond.code (zm_X11_untell).1 (zm_X11_untell).2.1 (zm_X11_untell).2.2.1 (zm_X11_untell).2.2.2 ∈ zTb := zt_4 218 rfl rfl
theorem zv_X11_untell : zCV zm_X11_untell := ⟨zt_4 216 (by decide +kernel) rfl, zt_4 217 (by decide +kernel) rfl⟩
abbrev zm_X7_takeBack : zY := (yX7_takeBack, cX7_takeBack, 2, (some .boolean))
set_option maxRecDepth 40000 in
theorem zk_X7_takeBack : Cond.code (zm_X7_takeBack).1 (zm_X7_takeBack).2.1 (zm_X7_takeBack).2.2.1 (zm_X7_takeBack).2.2.2 ∈ zTb := zt_4 222 rfl rfl
theorem zv_X7_takeBack : zCV zm_X7_takeBack := ⟨zt_4 220 (by decide +kernel) rfl, zt_4 221 (by decide +kernel) rfl⟩
abbrev zm_X11_later : zY := (yX11_later, cX11_later, 2, (some .int))
set_option maxRecDepth 40000 in
theorem zk_X11_later : Cond.code (zm_X11_later).1 (zm_X11_later).2.1 (zm_X11_later).2.2.1 (zm_X11_later).2.2.2 ∈ zTb := zt_4 226 rfl rfl
theorem zv_X11_later : zCV zm_X11_later := ⟨zt_4 224 (by decide +kernel) rfl, zt_4 225 (by decide +kernel) rfl⟩
abbrev zm_X7_goOn : zY := (yX7_goOn, cX7_goOn, 2, (some .int))
set_option maxRecDepth 40000 in
theorem zk_X7_goOn : Cond.code (zm_X7_goOn).1 (zm_X7_goOn).2.1 (zm_X7_goOn).2.2.1 (zm_X7_goOn).2.2.2 ∈ zTb := zt_4 230 rfl rfl
theorem zv_X7_goOn : zCV zm_X7_goOn := ⟨zt_4 228 (by decide +kernel) rfl, zt_4 229 (by decide +kernel) rfl⟩
abbrev zm_X11_fits : zY := (yX11_fits, cX11_fits, 2, (some .int))
set_option maxRecDepth 40000 in
theorem zk_X11_fits : Cond.code (zm_X11_fits).1 (zm_X11_fits).2.1 (zm_X11_fits).2.2.1 (zm_X11_fits).2.2.2 ∈ zTb := zt_4 235 rfl rfl
theorem zv_X11_fits : zCV zm_X11_fits := ⟨zt_4 233 (by decide +kernel) rfl, zt_4 234 (by decide +kernel) rfl⟩
abbrev zm_X11_countFits : zY := (yX11_countFits, cX11_countFits, 3, (some .int))
set_option maxRecDepth 40000 in
theorem zk_X11_countFits : Cond.code (zm_X11_countFits).1 (zm_X11_countFits).2.1 (zm_X11_countFits).2.2.1 (zm_X11_countFits).2.2.2 ∈ zTb := zt_4 239 rfl rfl
theorem zv_X11_countFits : zCV zm_X11_countFits := ⟨zt_4 238 (by decide +kernel) rfl, zt_0 30 (by decide +kernel) rfl⟩
abbrev zm_X1_learn : zY := (yX1_learn, cX1_learn, 8, none)
set_option maxRecDepth 40000 in
theorem zk_X1_learn : Cond.code (zm_X1_learn).1 (zm_X1_learn).2.1 (zm_X1_learn).2.2.1 (zm_X1_learn).2.2.2 ∈ zTb := zt_5 3 rfl rfl
theorem zv_X1_learn : zCV zm_X1_learn := ⟨zt_5 1 (by decide +kernel) rfl, zt_5 2 (by decide +kernel) rfl⟩
abbrev zm_X1_sendOne : zY := (yX1_sendOne, cX1_sendOne, 8, none)
set_option maxRecDepth 40000 in
theorem zk_X1_sendOne : Cond.code (zm_X1_sendOne).1 (zm_X1_sendOne).2.1 (zm_X1_sendOne).2.2.1 (zm_X1_sendOne).2.2.2 ∈ zTb := zt_5 13 rfl rfl
theorem zv_X1_sendOne : zCV zm_X1_sendOne := ⟨zt_5 12 (by decide +kernel) rfl, zt_0 31 (by decide +kernel) rfl⟩
abbrev zm_X1_scan : zY := (yX1_scan, cX1_scan, 8, (some .int))
set_option maxRecDepth 40000 in
theorem zk_X1_scan : Cond.code (zm_X1_scan).1 (zm_X1_scan).2.1 (zm_X1_scan).2.2.1 (zm_X1_scan).2.2.2 ∈ zTb := zt_5 18 rfl rfl
theorem zv_X1_scan : zCV zm_X1_scan := ⟨zt_5 16 (by decide +kernel) rfl, zt_5 17 (by decide +kernel) rfl⟩
abbrev zm_X7_agree : zY := (yX7_agree, cX7_agree, 5, (some .boolean))
set_option maxRecDepth 40000 in
theorem zk_X7_agree : Cond.code (zm_X7_agree).1 (zm_X7_agree).2.1 (zm_X7_agree).2.2.1 (zm_X7_agree).2.2.2 ∈ zTb := zt_5 23 rfl rfl
theorem zv_X7_agree : zCV zm_X7_agree := ⟨zt_5 21 (by decide +kernel) rfl, zt_5 22 (by decide +kernel) rfl⟩
abbrev zm_X1_nightOf : zY := (yX1_nightOf, cX1_nightOf, 2, (some .int))
set_option maxRecDepth 40000 in
theorem zk_X1_nightOf : Cond.code (zm_X1_nightOf).1 (zm_X1_nightOf).2.1 (zm_X1_nightOf).2.2.1 (zm_X1_nightOf).2.2.2 ∈ zTb := zt_5 26 rfl rfl
theorem zs_X1_nightOf : Cond.static (zm_X1_nightOf).1 ∈ zTb := zt_5 25 (by decide +kernel) rfl
abbrev zm_X7_counts : zY := (yX7_counts, cX7_counts, 3, (some .boolean))
set_option maxRecDepth 40000 in
theorem zk_X7_counts : Cond.code (zm_X7_counts).1 (zm_X7_counts).2.1 (zm_X7_counts).2.2.1 (zm_X7_counts).2.2.2 ∈ zTb := zt_5 30 rfl rfl
theorem zv_X7_counts : zCV zm_X7_counts := ⟨zt_5 29 (by decide +kernel) rfl, zt_0 32 (by decide +kernel) rfl⟩
abbrev zm_X11_sure : zY := (yX11_sure, cX11_sure, 5, (some .int))
set_option maxRecDepth 40000 in
theorem zk_X11_sure : Cond.code (zm_X11_sure).1 (zm_X11_sure).2.1 (zm_X11_sure).2.2.1 (zm_X11_sure).2.2.2 ∈ zTb := zt_5 34 rfl rfl
theorem zv_X11_sure : zCV zm_X11_sure := ⟨zt_5 32 (by decide +kernel) rfl, zt_5 33 (by decide +kernel) rfl⟩
abbrev zm_X11_image : zY := (yX11_image, cX11_image, 2, (some .int))
set_option maxRecDepth 40000 in
theorem zk_X11_image : Cond.code (zm_X11_image).1 (zm_X11_image).2.1 (zm_X11_image).2.2.1 (zm_X11_image).2.2.2 ∈ zTb := zt_5 38 rfl rfl
theorem zv_X11_image : zCV zm_X11_image := ⟨zt_5 36 (by decide +kernel) rfl, zt_5 37 (by decide +kernel) rfl⟩
abbrev zm_X6_copy : zY := (yX6_copy, cX6_copy, 2, none)
set_option maxRecDepth 40000 in
theorem zk_X6_copy : Cond.code (zm_X6_copy).1 (zm_X6_copy).2.1 (zm_X6_copy).2.2.1 (zm_X6_copy).2.2.2 ∈ zTb := zt_5 42 rfl rfl
theorem zv_X6_copy : zCV zm_X6_copy := ⟨zt_5 40 (by decide +kernel) rfl, zt_5 41 (by decide +kernel) rfl⟩
abbrev zm_X10_copy : zY := (yX10_copy, cX10_copy, 3, none)
set_option maxRecDepth 40000 in
theorem zk_X10_copy : Cond.code (zm_X10_copy).1 (zm_X10_copy).2.1 (zm_X10_copy).2.2.1 (zm_X10_copy).2.2.2 ∈ zTb := zt_5 47 rfl rfl
theorem zv_X10_copy : zCV zm_X10_copy := ⟨zt_5 45 (by decide +kernel) rfl, zt_5 46 (by decide +kernel) rfl⟩
abbrev zm_X11_back : zY := (yX11_back, cX11_back, 2, (some .int))
set_option maxRecDepth 40000 in
theorem zk_X11_back : Cond.code (zm_X11_back).1 (zm_X11_back).2.1 (zm_X11_back).2.2.1 (zm_X11_back).2.2.2 ∈ zTb := zt_5 52 rfl rfl
theorem zv_X11_back : zCV zm_X11_back := ⟨zt_5 50 (by decide +kernel) rfl, zt_5 51 (by decide +kernel) rfl⟩
abbrev zm_X11_about : zY := (yX11_about, cX11_about, 2, (some .int))
set_option maxRecDepth 40000 in
theorem zk_X11_about : Cond.code (zm_X11_about).1 (zm_X11_about).2.1 (zm_X11_about).2.2.1 (zm_X11_about).2.2.2 ∈ zTb := zt_5 56 rfl rfl
theorem zv_X11_about : zCV zm_X11_about := ⟨zt_5 54 (by decide +kernel) rfl, zt_5 55 (by decide +kernel) rfl⟩
abbrev zm_X12_init : zY := (yX12_init, cX12_init, 2, none)
set_option maxRecDepth 40000 in
theorem zk_X12_init : Cond.code (zm_X12_init).1 (zm_X12_init).2.1 (zm_X12_init).2.2.1 (zm_X12_init).2.2.2 ∈ zTb := zt_5 61 rfl rfl
abbrev zm_X12_clearBank : zY := (yX12_clearBank, cX12_clearBank, 1, none)
set_option maxRecDepth 40000 in
theorem zk_X12_clearBank : Cond.code (zm_X12_clearBank).1 (zm_X12_clearBank).2.1 (zm_X12_clearBank).2.2.1 (zm_X12_clearBank).2.2.2 ∈ zTb := zt_5 66 rfl rfl
theorem zv_X12_clearBank : zCV zm_X12_clearBank := ⟨zt_5 65 (by decide +kernel) rfl, zt_0 33 (by decide +kernel) rfl⟩
abbrev zm_X12_begin : zY := (yX12_begin, cX12_begin, 2, none)
set_option maxRecDepth 40000 in
theorem zk_X12_begin : Cond.code (zm_X12_begin).1 (zm_X12_begin).2.1 (zm_X12_begin).2.2.1 (zm_X12_begin).2.2.2 ∈ zTb := zt_5 70 rfl rfl
theorem zv_X12_begin : zCV zm_X12_begin := ⟨zt_5 69 (by decide +kernel) rfl, zt_0 34 (by decide +kernel) rfl⟩
abbrev zm_X12_worldMany : zY := (yX12_worldMany, cX12_worldMany, 1, (some .int))
set_option maxRecDepth 40000 in
theorem zk_X12_worldMany : Cond.code (zm_X12_worldMany).1 (zm_X12_worldMany).2.1 (zm_X12_worldMany).2.2.1 (zm_X12_worldMany).2.2.2 ∈ zTb := zt_5 74 rfl rfl
theorem zv_X12_worldMany : zCV zm_X12_worldMany := ⟨zt_5 73 (by decide +kernel) rfl, zt_0 35 (by decide +kernel) rfl⟩
abbrev zm_X12_manyOf : zY := (yX12_manyOf, cX12_manyOf, 1, (some .int))
set_option maxRecDepth 40000 in
theorem zk_X12_manyOf : Cond.code (zm_X12_manyOf).1 (zm_X12_manyOf).2.1 (zm_X12_manyOf).2.2.1 (zm_X12_manyOf).2.2.2 ∈ zTb := zt_5 78 rfl rfl
theorem zv_X12_manyOf : zCV zm_X12_manyOf := ⟨zt_5 77 (by decide +kernel) rfl, zt_0 36 (by decide +kernel) rfl⟩
abbrev zm_X12_island : zY := (yX12_island, cX12_island, 2, (some .int))
set_option maxRecDepth 40000 in
theorem zk_X12_island : Cond.code (zm_X12_island).1 (zm_X12_island).2.1 (zm_X12_island).2.2.1 (zm_X12_island).2.2.2 ∈ zTb := zt_6 47 rfl rfl
theorem zv_X12_island : zCV zm_X12_island := ⟨zt_6 45 (by decide +kernel) rfl, zt_6 46 (by decide +kernel) rfl⟩
abbrev zm_X12_beginText : zY := (yX12_beginText, cX12_beginText, 2, none)
set_option maxRecDepth 40000 in
theorem zk_X12_beginText : Cond.code (zm_X12_beginText).1 (zm_X12_beginText).2.1 (zm_X12_beginText).2.2.1 (zm_X12_beginText).2.2.2 ∈ zTb := zt_6 51 rfl rfl
theorem zv_X12_beginText : zCV zm_X12_beginText := ⟨zt_6 50 (by decide +kernel) rfl, zt_0 37 (by decide +kernel) rfl⟩
abbrev zm_X12_goOn : zY := (yX12_goOn, cX12_goOn, 3, none)
set_option maxRecDepth 40000 in
theorem zk_X12_goOn : Cond.code (zm_X12_goOn).1 (zm_X12_goOn).2.1 (zm_X12_goOn).2.2.1 (zm_X12_goOn).2.2.2 ∈ zTb := zt_6 55 rfl rfl
theorem zv_X12_goOn : zCV zm_X12_goOn := ⟨zt_6 54 (by decide +kernel) rfl, zt_0 38 (by decide +kernel) rfl⟩
abbrev zm_X12_sign : zY := (yX12_sign, cX12_sign, 2, (some .int))
set_option maxRecDepth 40000 in
theorem zk_X12_sign : Cond.code (zm_X12_sign).1 (zm_X12_sign).2.1 (zm_X12_sign).2.2.1 (zm_X12_sign).2.2.2 ∈ zTb := zt_6 59 rfl rfl
theorem zv_X12_sign : zCV zm_X12_sign := ⟨zt_6 58 (by decide +kernel) rfl, zt_0 39 (by decide +kernel) rfl⟩
abbrev zm_X12_isLetter : zY := (yX12_isLetter, cX12_isLetter, 1, (some .boolean))
set_option maxRecDepth 40000 in
theorem zk_X12_isLetter : Cond.code (zm_X12_isLetter).1 (zm_X12_isLetter).2.1 (zm_X12_isLetter).2.2.1 (zm_X12_isLetter).2.2.2 ∈ zTb := zt_6 62 rfl rfl
theorem zs_X12_isLetter : Cond.static (zm_X12_isLetter).1 ∈ zTb := zt_6 61 (by decide +kernel) rfl
abbrev zm_X12_isKept : zY := (yX12_isKept, cX12_isKept, 3, (some .boolean))
set_option maxRecDepth 40000 in
theorem zk_X12_isKept : Cond.code (zm_X12_isKept).1 (zm_X12_isKept).2.1 (zm_X12_isKept).2.2.1 (zm_X12_isKept).2.2.2 ∈ zTb := zt_6 65 rfl rfl
theorem zs_X12_isKept : Cond.static (zm_X12_isKept).1 ∈ zTb := zt_6 64 (by decide +kernel) rfl
abbrev zm_X12_isDigit : zY := (yX12_isDigit, cX12_isDigit, 1, (some .boolean))
set_option maxRecDepth 40000 in
theorem zk_X12_isDigit : Cond.code (zm_X12_isDigit).1 (zm_X12_isDigit).2.1 (zm_X12_isDigit).2.2.1 (zm_X12_isDigit).2.2.2 ∈ zTb := zt_6 85 rfl rfl
theorem zs_X12_isDigit : Cond.static (zm_X12_isDigit).1 ∈ zTb := zt_6 84 (by decide +kernel) rfl
abbrev zm_X12_isSign : zY := (yX12_isSign, cX12_isSign, 1, (some .boolean))
set_option maxRecDepth 40000 in
theorem zk_X12_isSign : Cond.code (zm_X12_isSign).1 (zm_X12_isSign).2.1 (zm_X12_isSign).2.2.1 (zm_X12_isSign).2.2.2 ∈ zTb := zt_6 88 rfl rfl
theorem zs_X12_isSign : Cond.static (zm_X12_isSign).1 ∈ zTb := zt_6 87 (by decide +kernel) rfl
abbrev zm_X12_isGood : zY := (yX12_isGood, cX12_isGood, 1, (some .boolean))
set_option maxRecDepth 40000 in
theorem zk_X12_isGood : Cond.code (zm_X12_isGood).1 (zm_X12_isGood).2.1 (zm_X12_isGood).2.2.1 (zm_X12_isGood).2.2.2 ∈ zTb := zt_6 92 rfl rfl
theorem zv_X12_isGood : zCV zm_X12_isGood := ⟨zt_6 91 (by decide +kernel) rfl, zt_0 40 (by decide +kernel) rfl⟩
abbrev zm_X12_readLine : zY := (yX12_readLine, cX12_readLine, 3, none)
set_option maxRecDepth 40000 in
theorem zk_X12_readLine : Cond.code (zm_X12_readLine).1 (zm_X12_readLine).2.1 (zm_X12_readLine).2.2.1 (zm_X12_readLine).2.2.2 ∈ zTb := zt_6 96 rfl rfl
theorem zv_X12_readLine : zCV zm_X12_readLine := ⟨zt_6 95 (by decide +kernel) rfl, zt_0 41 (by decide +kernel) rfl⟩
abbrev zm_X12_isFull : zY := (yX12_isFull, cX12_isFull, 1, (some .boolean))
set_option maxRecDepth 40000 in
theorem zk_X12_isFull : Cond.code (zm_X12_isFull).1 (zm_X12_isFull).2.1 (zm_X12_isFull).2.2.1 (zm_X12_isFull).2.2.2 ∈ zTb := zt_6 100 rfl rfl
theorem zv_X12_isFull : zCV zm_X12_isFull := ⟨zt_6 99 (by decide +kernel) rfl, zt_0 42 (by decide +kernel) rfl⟩
abbrev zm_X12_isWord : zY := (yX12_isWord, cX12_isWord, 3, (some .boolean))
set_option maxRecDepth 40000 in
theorem zk_X12_isWord : Cond.code (zm_X12_isWord).1 (zm_X12_isWord).2.1 (zm_X12_isWord).2.2.1 (zm_X12_isWord).2.2.2 ∈ zTb := zt_6 104 rfl rfl
theorem zv_X12_isWord : zCV zm_X12_isWord := ⟨zt_6 103 (by decide +kernel) rfl, zt_0 43 (by decide +kernel) rfl⟩
abbrev zm_X12_isBehind : zY := (yX12_isBehind, cX12_isBehind, 1, (some .boolean))
set_option maxRecDepth 40000 in
theorem zk_X12_isBehind : Cond.code (zm_X12_isBehind).1 (zm_X12_isBehind).2.1 (zm_X12_isBehind).2.2.1 (zm_X12_isBehind).2.2.2 ∈ zTb := zt_6 108 rfl rfl
theorem zv_X12_isBehind : zCV zm_X12_isBehind := ⟨zt_6 107 (by decide +kernel) rfl, zt_0 44 (by decide +kernel) rfl⟩
abbrev zm_X12_misplaced : zY := (yX12_misplaced, cX12_misplaced, 1, none)
set_option maxRecDepth 40000 in
theorem zk_X12_misplaced : Cond.code (zm_X12_misplaced).1 (zm_X12_misplaced).2.1 (zm_X12_misplaced).2.2.1 (zm_X12_misplaced).2.2.2 ∈ zTb := zt_6 112 rfl rfl
theorem zv_X12_misplaced : zCV zm_X12_misplaced := ⟨zt_6 111 (by decide +kernel) rfl, zt_0 45 (by decide +kernel) rfl⟩
abbrev zm_X12_fails : zY := (yX12_fails, cX12_fails, 3, none)
set_option maxRecDepth 40000 in
theorem zk_X12_fails : Cond.code (zm_X12_fails).1 (zm_X12_fails).2.1 (zm_X12_fails).2.2.1 (zm_X12_fails).2.2.2 ∈ zTb := zt_6 116 rfl rfl
theorem zv_X12_fails : zCV zm_X12_fails := ⟨zt_6 115 (by decide +kernel) rfl, zt_0 46 (by decide +kernel) rfl⟩
abbrev zm_X12_readOne : zY := (yX12_readOne, cX12_readOne, 2, none)
set_option maxRecDepth 40000 in
theorem zk_X12_readOne : Cond.code (zm_X12_readOne).1 (zm_X12_readOne).2.1 (zm_X12_readOne).2.2.1 (zm_X12_readOne).2.2.2 ∈ zTb := zt_6 120 rfl rfl
theorem zv_X12_readOne : zCV zm_X12_readOne := ⟨zt_6 119 (by decide +kernel) rfl, zt_0 47 (by decide +kernel) rfl⟩
abbrev zm_X12_here : zY := (yX12_here, cX12_here, 2, (some .int))
set_option maxRecDepth 40000 in
theorem zk_X12_here : Cond.code (zm_X12_here).1 (zm_X12_here).2.1 (zm_X12_here).2.2.1 (zm_X12_here).2.2.2 ∈ zTb := zt_6 124 rfl rfl
theorem zv_X12_here : zCV zm_X12_here := ⟨zt_6 123 (by decide +kernel) rfl, zt_0 48 (by decide +kernel) rfl⟩
abbrev zm_X12_flag : zY := (yX12_flag, cX12_flag, 4, (some .boolean))
set_option maxRecDepth 40000 in
theorem zk_X12_flag : Cond.code (zm_X12_flag).1 (zm_X12_flag).2.1 (zm_X12_flag).2.2.1 (zm_X12_flag).2.2.2 ∈ zTb := zt_6 128 rfl rfl
theorem zv_X12_flag : zCV zm_X12_flag := ⟨zt_6 127 (by decide +kernel) rfl, zt_0 49 (by decide +kernel) rfl⟩
abbrev zm_X12_readBlind : zY := (yX12_readBlind, cX12_readBlind, 3, none)
set_option maxRecDepth 40000 in
theorem zk_X12_readBlind : Cond.code (zm_X12_readBlind).1 (zm_X12_readBlind).2.1 (zm_X12_readBlind).2.2.1 (zm_X12_readBlind).2.2.2 ∈ zTb := zt_6 132 rfl rfl
theorem zv_X12_readBlind : zCV zm_X12_readBlind := ⟨zt_6 131 (by decide +kernel) rfl, zt_0 50 (by decide +kernel) rfl⟩
abbrev zm_X12_known : zY := (yX12_known, cX12_known, 2, (some .int))
set_option maxRecDepth 40000 in
theorem zk_X12_known : Cond.code (zm_X12_known).1 (zm_X12_known).2.1 (zm_X12_known).2.2.1 (zm_X12_known).2.2.2 ∈ zTb := zt_6 136 rfl rfl
theorem zv_X12_known : zCV zm_X12_known := ⟨zt_6 135 (by decide +kernel) rfl, zt_0 51 (by decide +kernel) rfl⟩
abbrev zm_X12_readLaw : zY := (yX12_readLaw, cX12_readLaw, 1, none)
set_option maxRecDepth 40000 in
theorem zk_X12_readLaw : Cond.code (zm_X12_readLaw).1 (zm_X12_readLaw).2.1 (zm_X12_readLaw).2.2.1 (zm_X12_readLaw).2.2.2 ∈ zTb := zt_6 140 rfl rfl
theorem zv_X12_readLaw : zCV zm_X12_readLaw := ⟨zt_6 139 (by decide +kernel) rfl, zt_0 52 (by decide +kernel) rfl⟩
abbrev zm_X12_must : zY := (yX12_must, cX12_must, 2, none)
set_option maxRecDepth 40000 in
theorem zk_X12_must : Cond.code (zm_X12_must).1 (zm_X12_must).2.1 (zm_X12_must).2.2.1 (zm_X12_must).2.2.2 ∈ zTb := zt_6 144 rfl rfl
theorem zv_X12_must : zCV zm_X12_must := ⟨zt_6 143 (by decide +kernel) rfl, zt_0 53 (by decide +kernel) rfl⟩
abbrev zm_X12_readSaying : zY := (yX12_readSaying, cX12_readSaying, 2, none)
set_option maxRecDepth 40000 in
theorem zk_X12_readSaying : Cond.code (zm_X12_readSaying).1 (zm_X12_readSaying).2.1 (zm_X12_readSaying).2.2.1 (zm_X12_readSaying).2.2.2 ∈ zTb := zt_6 148 rfl rfl
theorem zv_X12_readSaying : zCV zm_X12_readSaying := ⟨zt_6 147 (by decide +kernel) rfl, zt_0 54 (by decide +kernel) rfl⟩
abbrev zm_X12_f : zY := (yX12_f, cX12_f, 2, none)
set_option maxRecDepth 40000 in
theorem zk_X12_f : Cond.code (zm_X12_f).1 (zm_X12_f).2.1 (zm_X12_f).2.2.1 (zm_X12_f).2.2.2 ∈ zTb := zt_6 152 rfl rfl
theorem zv_X12_f : zCV zm_X12_f := ⟨zt_6 151 (by decide +kernel) rfl, zt_0 55 (by decide +kernel) rfl⟩
abbrev zm_X12_pushE : zY := (yX12_pushE, cX12_pushE, 4, none)
set_option maxRecDepth 40000 in
theorem zk_X12_pushE : Cond.code (zm_X12_pushE).1 (zm_X12_pushE).2.1 (zm_X12_pushE).2.2.1 (zm_X12_pushE).2.2.2 ∈ zTb := zt_6 156 rfl rfl
theorem zv_X12_pushE : zCV zm_X12_pushE := ⟨zt_6 155 (by decide +kernel) rfl, zt_0 56 (by decide +kernel) rfl⟩
abbrev zm_X12_unit : zY := (yX12_unit, cX12_unit, 6, (some .boolean))
set_option maxRecDepth 40000 in
theorem zk_X12_unit : Cond.code (zm_X12_unit).1 (zm_X12_unit).2.1 (zm_X12_unit).2.2.1 (zm_X12_unit).2.2.2 ∈ zTb := zt_6 160 rfl rfl
theorem zv_X12_unit : zCV zm_X12_unit := ⟨zt_6 159 (by decide +kernel) rfl, zt_0 57 (by decide +kernel) rfl⟩
abbrev zm_X12_unitHere : zY := (yX12_unitHere, cX12_unitHere, 1, (some .int))
set_option maxRecDepth 40000 in
theorem zk_X12_unitHere : Cond.code (zm_X12_unitHere).1 (zm_X12_unitHere).2.1 (zm_X12_unitHere).2.2.1 (zm_X12_unitHere).2.2.2 ∈ zTb := zt_6 164 rfl rfl
theorem zv_X12_unitHere : zCV zm_X12_unitHere := ⟨zt_6 163 (by decide +kernel) rfl, zt_0 58 (by decide +kernel) rfl⟩
abbrev zm_X12_stands : zY := (yX12_stands, cX12_stands, 2, (some .boolean))
set_option maxRecDepth 40000 in
theorem zk_X12_stands : Cond.code (zm_X12_stands).1 (zm_X12_stands).2.1 (zm_X12_stands).2.2.1 (zm_X12_stands).2.2.2 ∈ zTb := zt_6 168 rfl rfl
theorem zv_X12_stands : zCV zm_X12_stands := ⟨zt_6 167 (by decide +kernel) rfl, zt_0 59 (by decide +kernel) rfl⟩
abbrev zm_X12_emit : zY := (yX12_emit, cX12_emit, 3, none)
set_option maxRecDepth 40000 in
theorem zk_X12_emit : Cond.code (zm_X12_emit).1 (zm_X12_emit).2.1 (zm_X12_emit).2.2.1 (zm_X12_emit).2.2.2 ∈ zTb := zt_6 172 rfl rfl
theorem zv_X12_emit : zCV zm_X12_emit := ⟨zt_6 171 (by decide +kernel) rfl, zt_0 60 (by decide +kernel) rfl⟩
abbrev zm_X12_behindUnit : zY := (yX12_behindUnit, cX12_behindUnit, 2, (some .boolean))
set_option maxRecDepth 40000 in
theorem zk_X12_behindUnit : Cond.code (zm_X12_behindUnit).1 (zm_X12_behindUnit).2.1 (zm_X12_behindUnit).2.2.1 (zm_X12_behindUnit).2.2.2 ∈ zTb := zt_6 176 rfl rfl
theorem zv_X12_behindUnit : zCV zm_X12_behindUnit := ⟨zt_6 175 (by decide +kernel) rfl, zt_0 61 (by decide +kernel) rfl⟩
abbrev zm_X12_rankHere : zY := (yX12_rankHere, cX12_rankHere, 1, (some .int))
set_option maxRecDepth 40000 in
theorem zk_X12_rankHere : Cond.code (zm_X12_rankHere).1 (zm_X12_rankHere).2.1 (zm_X12_rankHere).2.2.1 (zm_X12_rankHere).2.2.2 ∈ zTb := zt_6 180 rfl rfl
theorem zv_X12_rankHere : zCV zm_X12_rankHere := ⟨zt_6 179 (by decide +kernel) rfl, zt_0 62 (by decide +kernel) rfl⟩
abbrev zm_X12_isCompared : zY := (yX12_isCompared, cX12_isCompared, 2, (some .boolean))
set_option maxRecDepth 40000 in
theorem zk_X12_isCompared : Cond.code (zm_X12_isCompared).1 (zm_X12_isCompared).2.1 (zm_X12_isCompared).2.2.1 (zm_X12_isCompared).2.2.2 ∈ zTb := zt_6 184 rfl rfl
theorem zv_X12_isCompared : zCV zm_X12_isCompared := ⟨zt_6 183 (by decide +kernel) rfl, zt_0 63 (by decide +kernel) rfl⟩
abbrev zm_X12_fault : zY := (yX12_fault, cX12_fault, 2, (some .int))
set_option maxRecDepth 40000 in
theorem zk_X12_fault : Cond.code (zm_X12_fault).1 (zm_X12_fault).2.1 (zm_X12_fault).2.2.1 (zm_X12_fault).2.2.2 ∈ zTb := zt_6 188 rfl rfl
theorem zv_X12_fault : zCV zm_X12_fault := ⟨zt_6 186 (by decide +kernel) rfl, zt_6 187 (by decide +kernel) rfl⟩
abbrev zm_X12_sees : zY := (yX12_sees, cX12_sees, 2, (some .int))
set_option maxRecDepth 40000 in
theorem zk_X12_sees : Cond.code (zm_X12_sees).1 (zm_X12_sees).2.1 (zm_X12_sees).2.2.1 (zm_X12_sees).2.2.2 ∈ zTb := zt_6 192 rfl rfl
theorem zv_X12_sees : zCV zm_X12_sees := ⟨zt_6 190 (by decide +kernel) rfl, zt_6 191 (by decide +kernel) rfl⟩
abbrev zm_X12_isOne : zY := (yX12_isOne, cX12_isOne, 2, (some .boolean))
set_option maxRecDepth 40000 in
theorem zk_X12_isOne : Cond.code (zm_X12_isOne).1 (zm_X12_isOne).2.1 (zm_X12_isOne).2.2.1 (zm_X12_isOne).2.2.2 ∈ zTb := zt_6 196 rfl rfl
theorem zv_X12_isOne : zCV zm_X12_isOne := ⟨zt_6 195 (by decide +kernel) rfl, zt_0 64 (by decide +kernel) rfl⟩
abbrev zm_X12_isIn : zY := (yX12_isIn, cX12_isIn, 3, (some .boolean))
set_option maxRecDepth 40000 in
theorem zk_X12_isIn : Cond.code (zm_X12_isIn).1 (zm_X12_isIn).2.1 (zm_X12_isIn).2.2.1 (zm_X12_isIn).2.2.2 ∈ zTb := zt_6 199 rfl rfl
theorem zs_X12_isIn : Cond.static (zm_X12_isIn).1 ∈ zTb := zt_6 198 (by decide +kernel) rfl
abbrev zm_X12_seesOf : zY := (yX12_seesOf, cX12_seesOf, 2, (some .int))
set_option maxRecDepth 40000 in
theorem zk_X12_seesOf : Cond.code (zm_X12_seesOf).1 (zm_X12_seesOf).2.1 (zm_X12_seesOf).2.2.1 (zm_X12_seesOf).2.2.2 ∈ zTb := zt_6 203 rfl rfl
theorem zv_X12_seesOf : zCV zm_X12_seesOf := ⟨zt_6 202 (by decide +kernel) rfl, zt_0 65 (by decide +kernel) rfl⟩
abbrev zm_X12_worlds : zY := (yX12_worlds, cX12_worlds, 3, (some .int))
set_option maxRecDepth 40000 in
theorem zk_X12_worlds : Cond.code (zm_X12_worlds).1 (zm_X12_worlds).2.1 (zm_X12_worlds).2.2.1 (zm_X12_worlds).2.2.2 ∈ zTb := zt_6 207 rfl rfl
theorem zv_X12_worlds : zCV zm_X12_worlds := ⟨zt_6 205 (by decide +kernel) rfl, zt_6 206 (by decide +kernel) rfl⟩
abbrev zm_X12_possible : zY := (yX12_possible, cX12_possible, 2, (some .int))
set_option maxRecDepth 40000 in
theorem zk_X12_possible : Cond.code (zm_X12_possible).1 (zm_X12_possible).2.1 (zm_X12_possible).2.2.1 (zm_X12_possible).2.2.2 ∈ zTb := zt_6 211 rfl rfl
theorem zv_X12_possible : zCV zm_X12_possible := ⟨zt_6 209 (by decide +kernel) rfl, zt_6 210 (by decide +kernel) rfl⟩
abbrev zm_X12_isWorld : zY := (yX12_isWorld, cX12_isWorld, 2, (some .boolean))
set_option maxRecDepth 40000 in
theorem zk_X12_isWorld : Cond.code (zm_X12_isWorld).1 (zm_X12_isWorld).2.1 (zm_X12_isWorld).2.2.1 (zm_X12_isWorld).2.2.2 ∈ zTb := zt_6 215 rfl rfl
theorem zv_X12_isWorld : zCV zm_X12_isWorld := ⟨zt_6 214 (by decide +kernel) rfl, zt_0 66 (by decide +kernel) rfl⟩
abbrev zm_X12_like : zY := (yX12_like, cX12_like, 4, (some .int))
set_option maxRecDepth 40000 in
theorem zk_X12_like : Cond.code (zm_X12_like).1 (zm_X12_like).2.1 (zm_X12_like).2.2.1 (zm_X12_like).2.2.2 ∈ zTb := zt_6 219 rfl rfl
theorem zv_X12_like : zCV zm_X12_like := ⟨zt_6 217 (by decide +kernel) rfl, zt_6 218 (by decide +kernel) rfl⟩
abbrev zm_X12_areLike : zY := (yX12_areLike, cX12_areLike, 5, (some .boolean))
set_option maxRecDepth 40000 in
theorem zk_X12_areLike : Cond.code (zm_X12_areLike).1 (zm_X12_areLike).2.1 (zm_X12_areLike).2.2.1 (zm_X12_areLike).2.2.2 ∈ zTb := zt_6 223 rfl rfl
theorem zv_X12_areLike : zCV zm_X12_areLike := ⟨zt_6 222 (by decide +kernel) rfl, zt_0 67 (by decide +kernel) rfl⟩
abbrev zm_X12_ask : zY := (yX12_ask, cX12_ask, 1, (some .int))
set_option maxRecDepth 40000 in
theorem zk_X12_ask : Cond.code (zm_X12_ask).1 (zm_X12_ask).2.1 (zm_X12_ask).2.2.1 (zm_X12_ask).2.2.2 ∈ zTb := zt_6 227 rfl rfl
theorem zv_X12_ask : zCV zm_X12_ask := ⟨zt_6 225 (by decide +kernel) rfl, zt_6 226 (by decide +kernel) rfl⟩
abbrev zm_X12_readAlone : zY := (yX12_readAlone, cX12_readAlone, 1, (some .boolean))
set_option maxRecDepth 40000 in
theorem zk_X12_readAlone : Cond.code (zm_X12_readAlone).1 (zm_X12_readAlone).2.1 (zm_X12_readAlone).2.2.1 (zm_X12_readAlone).2.2.2 ∈ zTb := zt_6 231 rfl rfl
theorem zv_X12_readAlone : zCV zm_X12_readAlone := ⟨zt_6 230 (by decide +kernel) rfl, zt_0 68 (by decide +kernel) rfl⟩
abbrev zm_X12_work : zY := (yX12_work, cX12_work, 8, none)
set_option maxRecDepth 40000 in
theorem zk_X12_work : Cond.code (zm_X12_work).1 (zm_X12_work).2.1 (zm_X12_work).2.2.1 (zm_X12_work).2.2.2 ∈ zTb := zt_6 236 rfl rfl
theorem zv_X12_work : zCV zm_X12_work := ⟨zt_6 235 (by decide +kernel) rfl, zt_0 69 (by decide +kernel) rfl⟩
abbrev zm_X12_plain : zY := (yX12_plain, cX12_plain, 4, (some .int))
set_option maxRecDepth 40000 in
theorem zk_X12_plain : Cond.code (zm_X12_plain).1 (zm_X12_plain).2.1 (zm_X12_plain).2.2.1 (zm_X12_plain).2.2.2 ∈ zTb := zt_7 0 rfl rfl
theorem zv_X12_plain : zCV zm_X12_plain := ⟨zt_6 239 (by decide +kernel) rfl, zt_0 70 (by decide +kernel) rfl⟩
abbrev zm_X12_bitsOf : zY := (yX12_bitsOf, cX12_bitsOf, 3, (some .int))
set_option maxRecDepth 40000 in
theorem zk_X12_bitsOf : Cond.code (zm_X12_bitsOf).1 (zm_X12_bitsOf).2.1 (zm_X12_bitsOf).2.2.1 (zm_X12_bitsOf).2.2.2 ∈ zTb := zt_7 3 rfl rfl
theorem zs_X12_bitsOf : Cond.static (zm_X12_bitsOf).1 ∈ zTb := zt_7 2 (by decide +kernel) rfl
abbrev zm_X12_knowsOf : zY := (yX12_knowsOf, cX12_knowsOf, 4, none)
set_option maxRecDepth 40000 in
theorem zk_X12_knowsOf : Cond.code (zm_X12_knowsOf).1 (zm_X12_knowsOf).2.1 (zm_X12_knowsOf).2.2.1 (zm_X12_knowsOf).2.2.2 ∈ zTb := zt_7 7 rfl rfl
theorem zv_X12_knowsOf : zCV zm_X12_knowsOf := ⟨zt_7 6 (by decide +kernel) rfl, zt_0 71 (by decide +kernel) rfl⟩
abbrev zm_X12_doesKnow : zY := (yX12_doesKnow, cX12_doesKnow, 5, (some .boolean))
set_option maxRecDepth 40000 in
theorem zk_X12_doesKnow : Cond.code (zm_X12_doesKnow).1 (zm_X12_doesKnow).2.1 (zm_X12_doesKnow).2.2.1 (zm_X12_doesKnow).2.2.2 ∈ zTb := zt_7 11 rfl rfl
theorem zv_X12_doesKnow : zCV zm_X12_doesKnow := ⟨zt_7 10 (by decide +kernel) rfl, zt_0 72 (by decide +kernel) rfl⟩
abbrev zm_X12_allKnow : zY := (yX12_allKnow, cX12_allKnow, 5, none)
set_option maxRecDepth 40000 in
theorem zk_X12_allKnow : Cond.code (zm_X12_allKnow).1 (zm_X12_allKnow).2.1 (zm_X12_allKnow).2.2.1 (zm_X12_allKnow).2.2.2 ∈ zTb := zt_7 15 rfl rfl
theorem zv_X12_allKnow : zCV zm_X12_allKnow := ⟨zt_7 14 (by decide +kernel) rfl, zt_0 73 (by decide +kernel) rfl⟩
abbrev zm_X12_commonOf : zY := (yX12_commonOf, cX12_commonOf, 3, none)
set_option maxRecDepth 40000 in
theorem zk_X12_commonOf : Cond.code (zm_X12_commonOf).1 (zm_X12_commonOf).2.1 (zm_X12_commonOf).2.2.1 (zm_X12_commonOf).2.2.2 ∈ zTb := zt_7 19 rfl rfl
theorem zv_X12_commonOf : zCV zm_X12_commonOf := ⟨zt_7 18 (by decide +kernel) rfl, zt_0 74 (by decide +kernel) rfl⟩
abbrev zm_X12_layParts : zY := (yX12_layParts, cX12_layParts, 2, none)
set_option maxRecDepth 40000 in
theorem zk_X12_layParts : Cond.code (zm_X12_layParts).1 (zm_X12_layParts).2.1 (zm_X12_layParts).2.2.1 (zm_X12_layParts).2.2.2 ∈ zTb := zt_7 23 rfl rfl
theorem zv_X12_layParts : zCV zm_X12_layParts := ⟨zt_7 22 (by decide +kernel) rfl, zt_0 75 (by decide +kernel) rfl⟩
abbrev zm_X12_layPart : zY := (yX12_layPart, cX12_layPart, 7, none)
set_option maxRecDepth 40000 in
theorem zk_X12_layPart : Cond.code (zm_X12_layPart).1 (zm_X12_layPart).2.1 (zm_X12_layPart).2.2.1 (zm_X12_layPart).2.2.2 ∈ zTb := zt_7 27 rfl rfl
theorem zv_X12_layPart : zCV zm_X12_layPart := ⟨zt_7 26 (by decide +kernel) rfl, zt_0 76 (by decide +kernel) rfl⟩
abbrev zm_X12_two : zY := (yX12_two, cX12_two, 3, (some .int))
set_option maxRecDepth 40000 in
theorem zk_X12_two : Cond.code (zm_X12_two).1 (zm_X12_two).2.1 (zm_X12_two).2.2.1 (zm_X12_two).2.2.2 ∈ zTb := zt_7 30 rfl rfl
theorem zs_X12_two : Cond.static (zm_X12_two).1 ∈ zTb := zt_7 29 (by decide +kernel) rfl
abbrev zm_X12_theTrue : zY := (yX12_theTrue, cX12_theTrue, 1, (some .int))
set_option maxRecDepth 40000 in
theorem zk_X12_theTrue : Cond.code (zm_X12_theTrue).1 (zm_X12_theTrue).2.1 (zm_X12_theTrue).2.2.1 (zm_X12_theTrue).2.2.2 ∈ zTb := zt_7 34 rfl rfl
theorem zv_X12_theTrue : zCV zm_X12_theTrue := ⟨zt_7 33 (by decide +kernel) rfl, zt_0 77 (by decide +kernel) rfl⟩
abbrev zm_X12_holds : zY := (yX12_holds, cX12_holds, 3, (some .int))
set_option maxRecDepth 40000 in
theorem zk_X12_holds : Cond.code (zm_X12_holds).1 (zm_X12_holds).2.1 (zm_X12_holds).2.2.1 (zm_X12_holds).2.2.2 ∈ zTb := zt_7 38 rfl rfl
theorem zv_X12_holds : zCV zm_X12_holds := ⟨zt_7 36 (by decide +kernel) rfl, zt_7 37 (by decide +kernel) rfl⟩
abbrev zm_X12_deep : zY := (yX12_deep, cX12_deep, 3, (some .int))
set_option maxRecDepth 40000 in
theorem zk_X12_deep : Cond.code (zm_X12_deep).1 (zm_X12_deep).2.1 (zm_X12_deep).2.2.1 (zm_X12_deep).2.2.2 ∈ zTb := zt_7 42 rfl rfl
theorem zv_X12_deep : zCV zm_X12_deep := ⟨zt_7 40 (by decide +kernel) rfl, zt_7 41 (by decide +kernel) rfl⟩
abbrev zm_X12_isCommon : zY := (yX12_isCommon, cX12_isCommon, 3, (some .boolean))
set_option maxRecDepth 40000 in
theorem zk_X12_isCommon : Cond.code (zm_X12_isCommon).1 (zm_X12_isCommon).2.1 (zm_X12_isCommon).2.2.1 (zm_X12_isCommon).2.2.2 ∈ zTb := zt_7 46 rfl rfl
theorem zv_X12_isCommon : zCV zm_X12_isCommon := ⟨zt_7 45 (by decide +kernel) rfl, zt_0 78 (by decide +kernel) rfl⟩
abbrev zm_X12_say : zY := (yX12_say, cX12_say, 1, (some .int))
set_option maxRecDepth 40000 in
theorem zk_X12_say : Cond.code (zm_X12_say).1 (zm_X12_say).2.1 (zm_X12_say).2.2.1 (zm_X12_say).2.2.2 ∈ zTb := zt_7 50 rfl rfl
theorem zv_X12_say : zCV zm_X12_say := ⟨zt_7 48 (by decide +kernel) rfl, zt_7 49 (by decide +kernel) rfl⟩
abbrev zm_X12_strike : zY := (yX12_strike, cX12_strike, 3, (some .int))
set_option maxRecDepth 40000 in
theorem zk_X12_strike : Cond.code (zm_X12_strike).1 (zm_X12_strike).2.1 (zm_X12_strike).2.2.1 (zm_X12_strike).2.2.2 ∈ zTb := zt_7 54 rfl rfl
theorem zv_X12_strike : zCV zm_X12_strike := ⟨zt_7 53 (by decide +kernel) rfl, zt_0 79 (by decide +kernel) rfl⟩
abbrev zm_X12_saying : zY := (yX12_saying, cX12_saying, 2, (some .int))
set_option maxRecDepth 40000 in
theorem zk_X12_saying : Cond.code (zm_X12_saying).1 (zm_X12_saying).2.1 (zm_X12_saying).2.2.1 (zm_X12_saying).2.2.2 ∈ zTb := zt_7 58 rfl rfl
theorem zv_X12_saying : zCV zm_X12_saying := ⟨zt_7 56 (by decide +kernel) rfl, zt_7 57 (by decide +kernel) rfl⟩
abbrev zm_X12_whisper : zY := (yX12_whisper, cX12_whisper, 3, (some .int))
set_option maxRecDepth 40000 in
theorem zk_X12_whisper : Cond.code (zm_X12_whisper).1 (zm_X12_whisper).2.1 (zm_X12_whisper).2.2.1 (zm_X12_whisper).2.2.2 ∈ zTb := zt_7 62 rfl rfl
theorem zv_X12_whisper : zCV zm_X12_whisper := ⟨zt_7 60 (by decide +kernel) rfl, zt_7 61 (by decide +kernel) rfl⟩
abbrev zm_X12_night : zY := (yX12_night, cX12_night, 1, (some .int))
set_option maxRecDepth 40000 in
theorem zk_X12_night : Cond.code (zm_X12_night).1 (zm_X12_night).2.1 (zm_X12_night).2.2.1 (zm_X12_night).2.2.2 ∈ zTb := zt_7 66 rfl rfl
theorem zv_X12_night : zCV zm_X12_night := ⟨zt_7 64 (by decide +kernel) rfl, zt_7 65 (by decide +kernel) rfl⟩
abbrev zm_X12_oneNight : zY := (yX12_oneNight, cX12_oneNight, 3, (some .int))
set_option maxRecDepth 40000 in
theorem zk_X12_oneNight : Cond.code (zm_X12_oneNight).1 (zm_X12_oneNight).2.1 (zm_X12_oneNight).2.2.1 (zm_X12_oneNight).2.2.2 ∈ zTb := zt_7 70 rfl rfl
theorem zv_X12_oneNight : zCV zm_X12_oneNight := ⟨zt_7 69 (by decide +kernel) rfl, zt_0 80 (by decide +kernel) rfl⟩
abbrev zm_X12_goersIn : zY := (yX12_goersIn, cX12_goersIn, 7, (some .int))
set_option maxRecDepth 40000 in
theorem zk_X12_goersIn : Cond.code (zm_X12_goersIn).1 (zm_X12_goersIn).2.1 (zm_X12_goersIn).2.2.1 (zm_X12_goersIn).2.2.2 ∈ zTb := zt_7 74 rfl rfl
theorem zv_X12_goersIn : zCV zm_X12_goersIn := ⟨zt_7 73 (by decide +kernel) rfl, zt_0 81 (by decide +kernel) rfl⟩
abbrev zm_X12_gone : zY := (yX12_gone, cX12_gone, 1, (some .int))
set_option maxRecDepth 40000 in
theorem zk_X12_gone : Cond.code (zm_X12_gone).1 (zm_X12_gone).2.1 (zm_X12_gone).2.2.1 (zm_X12_gone).2.2.2 ∈ zTb := zt_7 78 rfl rfl
theorem zv_X12_gone : zCV zm_X12_gone := ⟨zt_7 76 (by decide +kernel) rfl, zt_7 77 (by decide +kernel) rfl⟩
abbrev zm_X12_own : zY := (yX12_own, cX12_own, 5, (some .int))
set_option maxRecDepth 40000 in
theorem zk_X12_own : Cond.code (zm_X12_own).1 (zm_X12_own).2.1 (zm_X12_own).2.2.1 (zm_X12_own).2.2.2 ∈ zTb := zt_7 82 rfl rfl
theorem zv_X12_own : zCV zm_X12_own := ⟨zt_7 80 (by decide +kernel) rfl, zt_7 81 (by decide +kernel) rfl⟩
abbrev zm_X12_when : zY := (yX12_when, cX12_when, 6, (some .int))
set_option maxRecDepth 40000 in
theorem zk_X12_when : Cond.code (zm_X12_when).1 (zm_X12_when).2.1 (zm_X12_when).2.2.1 (zm_X12_when).2.2.2 ∈ zTb := zt_7 86 rfl rfl
theorem zv_X12_when : zCV zm_X12_when := ⟨zt_7 84 (by decide +kernel) rfl, zt_7 85 (by decide +kernel) rfl⟩
abbrev zm_X12_keep : zY := (yX12_keep, cX12_keep, 3, none)
set_option maxRecDepth 40000 in
theorem zk_X12_keep : Cond.code (zm_X12_keep).1 (zm_X12_keep).2.1 (zm_X12_keep).2.2.1 (zm_X12_keep).2.2.2 ∈ zTb := zt_7 90 rfl rfl
theorem zv_X12_keep : zCV zm_X12_keep := ⟨zt_7 89 (by decide +kernel) rfl, zt_0 82 (by decide +kernel) rfl⟩
abbrev zm_X12_bring : zY := (yX12_bring, cX12_bring, 3, none)
set_option maxRecDepth 40000 in
theorem zk_X12_bring : Cond.code (zm_X12_bring).1 (zm_X12_bring).2.1 (zm_X12_bring).2.2.1 (zm_X12_bring).2.2.2 ∈ zTb := zt_7 94 rfl rfl
theorem zv_X12_bring : zCV zm_X12_bring := ⟨zt_7 93 (by decide +kernel) rfl, zt_0 83 (by decide +kernel) rfl⟩
abbrev zm_X12_fewest : zY := (yX12_fewest, cX12_fewest, 5, (some .int))
set_option maxRecDepth 40000 in
theorem zk_X12_fewest : Cond.code (zm_X12_fewest).1 (zm_X12_fewest).2.1 (zm_X12_fewest).2.2.1 (zm_X12_fewest).2.2.2 ∈ zTb := zt_7 98 rfl rfl
theorem zv_X12_fewest : zCV zm_X12_fewest := ⟨zt_7 96 (by decide +kernel) rfl, zt_7 97 (by decide +kernel) rfl⟩
abbrev zm_X12_goBy : zY := (yX12_goBy, cX12_goBy, 5, (some .int))
set_option maxRecDepth 40000 in
theorem zk_X12_goBy : Cond.code (zm_X12_goBy).1 (zm_X12_goBy).2.1 (zm_X12_goBy).2.2.1 (zm_X12_goBy).2.2.2 ∈ zTb := zt_7 102 rfl rfl
theorem zv_X12_goBy : zCV zm_X12_goBy := ⟨zt_7 101 (by decide +kernel) rfl, zt_0 84 (by decide +kernel) rfl⟩
abbrev zm_X12_sight : zY := (yX12_sight, cX12_sight, 4, (some .int))
set_option maxRecDepth 40000 in
theorem zk_X12_sight : Cond.code (zm_X12_sight).1 (zm_X12_sight).2.1 (zm_X12_sight).2.2.1 (zm_X12_sight).2.2.2 ∈ zTb := zt_7 107 rfl rfl
theorem zv_X12_sight : zCV zm_X12_sight := ⟨zt_7 105 (by decide +kernel) rfl, zt_7 106 (by decide +kernel) rfl⟩
abbrev zm_X12_untell : zY := (yX12_untell, cX12_untell, 2, (some .boolean))
set_option maxRecDepth 40000 in
theorem zk_X12_untell : Cond.code (zm_X12_untell).1 (zm_X12_untell).2.1 (zm_X12_untell).2.2.1 (zm_X12_untell).2.2.2 ∈ zTb := zt_7 111 rfl rfl
theorem zv_X12_untell : zCV zm_X12_untell := ⟨zt_7 109 (by decide +kernel) rfl, zt_7 110 (by decide +kernel) rfl⟩
abbrev zm_X12_later : zY := (yX12_later, cX12_later, 2, (some .int))
set_option maxRecDepth 40000 in
theorem zk_X12_later : Cond.code (zm_X12_later).1 (zm_X12_later).2.1 (zm_X12_later).2.2.1 (zm_X12_later).2.2.2 ∈ zTb := zt_7 115 rfl rfl
theorem zv_X12_later : zCV zm_X12_later := ⟨zt_7 113 (by decide +kernel) rfl, zt_7 114 (by decide +kernel) rfl⟩
abbrev zm_X12_fits : zY := (yX12_fits, cX12_fits, 2, (some .int))
set_option maxRecDepth 40000 in
theorem zk_X12_fits : Cond.code (zm_X12_fits).1 (zm_X12_fits).2.1 (zm_X12_fits).2.2.1 (zm_X12_fits).2.2.2 ∈ zTb := zt_7 120 rfl rfl
theorem zv_X12_fits : zCV zm_X12_fits := ⟨zt_7 118 (by decide +kernel) rfl, zt_7 119 (by decide +kernel) rfl⟩
abbrev zm_X12_fitsOf : zY := (yX12_fitsOf, cX12_fitsOf, 5, (some .int))
set_option maxRecDepth 40000 in
theorem zk_X12_fitsOf : Cond.code (zm_X12_fitsOf).1 (zm_X12_fitsOf).2.1 (zm_X12_fitsOf).2.2.1 (zm_X12_fitsOf).2.2.2 ∈ zTb := zt_7 124 rfl rfl
theorem zv_X12_fitsOf : zCV zm_X12_fitsOf := ⟨zt_7 123 (by decide +kernel) rfl, zt_0 85 (by decide +kernel) rfl⟩
abbrev zm_X12_fitsBy : zY := (yX12_fitsBy, cX12_fitsBy, 6, (some .int))
set_option maxRecDepth 40000 in
theorem zk_X12_fitsBy : Cond.code (zm_X12_fitsBy).1 (zm_X12_fitsBy).2.1 (zm_X12_fitsBy).2.2.1 (zm_X12_fitsBy).2.2.2 ∈ zTb := zt_7 128 rfl rfl
theorem zv_X12_fitsBy : zCV zm_X12_fitsBy := ⟨zt_7 127 (by decide +kernel) rfl, zt_0 86 (by decide +kernel) rfl⟩
abbrev zm_X12_nightOfAll : zY := (yX12_nightOfAll, cX12_nightOfAll, 5, none)
set_option maxRecDepth 40000 in
theorem zk_X12_nightOfAll : Cond.code (zm_X12_nightOfAll).1 (zm_X12_nightOfAll).2.1 (zm_X12_nightOfAll).2.2.1 (zm_X12_nightOfAll).2.2.2 ∈ zTb := zt_7 132 rfl rfl
theorem zv_X12_nightOfAll : zCV zm_X12_nightOfAll := ⟨zt_7 131 (by decide +kernel) rfl, zt_0 87 (by decide +kernel) rfl⟩
abbrev zm_X12_goesIn : zY := (yX12_goesIn, cX12_goesIn, 7, (some .int))
set_option maxRecDepth 40000 in
theorem zk_X12_goesIn : Cond.code (zm_X12_goesIn).1 (zm_X12_goesIn).2.1 (zm_X12_goesIn).2.2.1 (zm_X12_goesIn).2.2.2 ∈ zTb := zt_7 136 rfl rfl
theorem zv_X12_goesIn : zCV zm_X12_goesIn := ⟨zt_7 135 (by decide +kernel) rfl, zt_0 88 (by decide +kernel) rfl⟩
abbrev zm_X12_sure : zY := (yX12_sure, cX12_sure, 3, (some .int))
set_option maxRecDepth 40000 in
theorem zk_X12_sure : Cond.code (zm_X12_sure).1 (zm_X12_sure).2.1 (zm_X12_sure).2.2.1 (zm_X12_sure).2.2.2 ∈ zTb := zt_7 140 rfl rfl
theorem zv_X12_sure : zCV zm_X12_sure := ⟨zt_7 138 (by decide +kernel) rfl, zt_7 139 (by decide +kernel) rfl⟩
abbrev zm_X12_image : zY := (yX12_image, cX12_image, 2, (some .int))
set_option maxRecDepth 40000 in
theorem zk_X12_image : Cond.code (zm_X12_image).1 (zm_X12_image).2.1 (zm_X12_image).2.2.1 (zm_X12_image).2.2.2 ∈ zTb := zt_7 144 rfl rfl
theorem zv_X12_image : zCV zm_X12_image := ⟨zt_7 142 (by decide +kernel) rfl, zt_7 143 (by decide +kernel) rfl⟩
abbrev zm_X12_back : zY := (yX12_back, cX12_back, 2, (some .int))
set_option maxRecDepth 40000 in
theorem zk_X12_back : Cond.code (zm_X12_back).1 (zm_X12_back).2.1 (zm_X12_back).2.2.1 (zm_X12_back).2.2.2 ∈ zTb := zt_7 148 rfl rfl
theorem zv_X12_back : zCV zm_X12_back := ⟨zt_7 146 (by decide +kernel) rfl, zt_7 147 (by decide +kernel) rfl⟩
abbrev zm_X12_about : zY := (yX12_about, cX12_about, 2, (some .int))
set_option maxRecDepth 40000 in
theorem zk_X12_about : Cond.code (zm_X12_about).1 (zm_X12_about).2.1 (zm_X12_about).2.2.1 (zm_X12_about).2.2.2 ∈ zTb := zt_7 152 rfl rfl
theorem zv_X12_about : zCV zm_X12_about := ⟨zt_7 150 (by decide +kernel) rfl, zt_7 151 (by decide +kernel) rfl⟩
abbrev zm_X12_feed : zY := (yX12_feed, cX12_feed, 8, (some .int))
set_option maxRecDepth 40000 in
theorem zk_X12_feed : Cond.code (zm_X12_feed).1 (zm_X12_feed).2.1 (zm_X12_feed).2.2.1 (zm_X12_feed).2.2.2 ∈ zTb := zt_7 156 rfl rfl
theorem zv_X12_feed : zCV zm_X12_feed := ⟨zt_7 154 (by decide +kernel) rfl, zt_7 155 (by decide +kernel) rfl⟩
abbrev zm_X12_end : zY := (yX12_end, cX12_end, 2, (some .int))
set_option maxRecDepth 40000 in
theorem zk_X12_end : Cond.code (zm_X12_end).1 (zm_X12_end).2.1 (zm_X12_end).2.2.1 (zm_X12_end).2.2.2 ∈ zTb := zt_7 160 rfl rfl
theorem zv_X12_end : zCV zm_X12_end := ⟨zt_7 158 (by decide +kernel) rfl, zt_7 159 (by decide +kernel) rfl⟩
theorem zf_X8_11 : zF RX8 11 7 0 := ⟨by decide, by decide, zt_1 37 (by decide +kernel) rfl⟩
theorem zf_X8_15 : zF RX8 15 7 1 := ⟨by decide, by decide, zt_1 38 (by decide +kernel) rfl⟩
theorem zf_X11_103 : zF RX11 103 7 1 := ⟨by decide, by decide, zt_1 39 (by decide +kernel) rfl⟩
theorem zf_X9_58 : zF RX9 58 7 1 := ⟨by decide, by decide, zt_1 40 (by decide +kernel) rfl⟩
theorem zf_X0_11 : zF RX0 11 0 0 := ⟨by decide, by decide, zt_1 53 (by decide +kernel) rfl⟩
theorem zf_X0_15 : zF RX0 15 0 1 := ⟨by decide, by decide, zt_1 54 (by decide +kernel) rfl⟩
theorem zf_X2_52 : zF RX2 52 0 1 := ⟨by decide, by decide, zt_1 55 (by decide +kernel) rfl⟩
theorem zf_X5_81 : zF RX5 81 0 1 := ⟨by decide, by decide, zt_1 56 (by decide +kernel) rfl⟩
theorem zf_X11_248 : zF RX11 248 0 1 := ⟨by decide, by decide, zt_1 57 (by decide +kernel) rfl⟩
theorem zf_X2_29 : zF RX2 29 2 0 := ⟨by decide, by decide, zt_1 72 (by decide +kernel) rfl⟩
theorem zf_X10_22 : zF RX10 22 2 0 := ⟨by decide, by decide, zt_1 73 (by decide +kernel) rfl⟩
theorem zf_X1_87 : zF RX1 87 2 0 := ⟨by decide, by decide, zt_1 74 (by decide +kernel) rfl⟩
theorem zf_X11_118 : zF RX11 118 2 0 := ⟨by decide, by decide, zt_1 75 (by decide +kernel) rfl⟩
theorem zf_X5_108 : zF RX5 108 2 0 := ⟨by decide, by decide, zt_1 76 (by decide +kernel) rfl⟩
theorem zf_X4_137 : zF RX4 137 2 0 := ⟨by decide, by decide, zt_1 77 (by decide +kernel) rfl⟩
theorem zf_X2_33 : zF RX2 33 2 1 := ⟨by decide, by decide, zt_1 78 (by decide +kernel) rfl⟩
theorem zf_X5_123 : zF RX5 123 2 1 := ⟨by decide, by decide, zt_1 79 (by decide +kernel) rfl⟩
theorem zf_X6_62 : zF RX6 62 2 1 := ⟨by decide, by decide, zt_1 80 (by decide +kernel) rfl⟩
theorem zf_X11_158 : zF RX11 158 2 1 := ⟨by decide, by decide, zt_1 81 (by decide +kernel) rfl⟩
theorem zf_X4_162 : zF RX4 162 2 1 := ⟨by decide, by decide, zt_1 82 (by decide +kernel) rfl⟩
theorem zf_X2_36 : zF RX2 36 2 2 := ⟨by decide, by decide, zt_1 83 (by decide +kernel) rfl⟩
theorem zf_X5_129 : zF RX5 129 2 2 := ⟨by decide, by decide, zt_1 84 (by decide +kernel) rfl⟩
theorem zf_X4_168 : zF RX4 168 2 2 := ⟨by decide, by decide, zt_1 85 (by decide +kernel) rfl⟩
theorem zf_X2_39 : zF RX2 39 2 3 := ⟨by decide, by decide, zt_1 86 (by decide +kernel) rfl⟩
theorem zf_X5_132 : zF RX5 132 2 3 := ⟨by decide, by decide, zt_1 87 (by decide +kernel) rfl⟩
theorem zf_X2_42 : zF RX2 42 2 4 := ⟨by decide, by decide, zt_1 88 (by decide +kernel) rfl⟩
theorem zf_X4_41 : zF RX4 41 2 4 := ⟨by decide, by decide, zt_1 89 (by decide +kernel) rfl⟩
theorem zf_X1_58 : zF RX1 58 2 4 := ⟨by decide, by decide, zt_1 90 (by decide +kernel) rfl⟩
theorem zf_X5_153 : zF RX5 153 2 4 := ⟨by decide, by decide, zt_1 91 (by decide +kernel) rfl⟩
theorem zf_X11_173 : zF RX11 173 2 4 := ⟨by decide, by decide, zt_1 92 (by decide +kernel) rfl⟩
theorem zf_X5_80 : zF RX5 80 2 5 := ⟨by decide, by decide, zt_1 93 (by decide +kernel) rfl⟩
theorem zf_X11_241 : zF RX11 241 2 5 := ⟨by decide, by decide, zt_1 94 (by decide +kernel) rfl⟩
theorem zf_X2_45 : zF RX2 45 2 6 := ⟨by decide, by decide, zt_1 95 (by decide +kernel) rfl⟩
theorem zf_X5_146 : zF RX5 146 2 6 := ⟨by decide, by decide, zt_1 96 (by decide +kernel) rfl⟩
theorem zf_X2_49 : zF RX2 49 2 7 := ⟨by decide, by decide, zt_1 97 (by decide +kernel) rfl⟩
theorem zf_X5_150 : zF RX5 150 2 7 := ⟨by decide, by decide, zt_1 98 (by decide +kernel) rfl⟩
theorem zf_X4_171 : zF RX4 171 2 7 := ⟨by decide, by decide, zt_1 99 (by decide +kernel) rfl⟩
theorem zf_X2_11 : zF RX2 11 2 8 := ⟨by decide, by decide, zt_1 100 (by decide +kernel) rfl⟩
theorem zf_X2_15 : zF RX2 15 2 9 := ⟨by decide, by decide, zt_1 101 (by decide +kernel) rfl⟩
theorem zf_X10_30 : zF RX10 30 2 9 := ⟨by decide, by decide, zt_1 102 (by decide +kernel) rfl⟩
theorem zf_X11_131 : zF RX11 131 2 9 := ⟨by decide, by decide, zt_1 103 (by decide +kernel) rfl⟩
theorem zf_X2_22 : zF RX2 22 2 10 := ⟨by decide, by decide, zt_1 104 (by decide +kernel) rfl⟩
theorem zf_X5_54 : zF RX5 54 2 10 := ⟨by decide, by decide, zt_1 105 (by decide +kernel) rfl⟩
theorem zf_X4_44 : zF RX4 44 2 10 := ⟨by decide, by decide, zt_1 106 (by decide +kernel) rfl⟩
theorem zf_X2_26 : zF RX2 26 2 11 := ⟨by decide, by decide, zt_1 107 (by decide +kernel) rfl⟩
theorem zf_X4_48 : zF RX4 48 2 11 := ⟨by decide, by decide, zt_1 108 (by decide +kernel) rfl⟩
theorem zf_X9_36 : zF RX9 36 8 0 := ⟨by decide, by decide, zt_1 196 (by decide +kernel) rfl⟩
theorem zf_X9_11 : zF RX9 11 8 1 := ⟨by decide, by decide, zt_1 197 (by decide +kernel) rfl⟩
theorem zf_X9_19 : zF RX9 19 8 2 := ⟨by decide, by decide, zt_1 198 (by decide +kernel) rfl⟩
theorem zf_X9_23 : zF RX9 23 8 3 := ⟨by decide, by decide, zt_1 199 (by decide +kernel) rfl⟩
theorem zf_X9_26 : zF RX9 26 8 4 := ⟨by decide, by decide, zt_1 200 (by decide +kernel) rfl⟩
theorem zf_X9_29 : zF RX9 29 8 5 := ⟨by decide, by decide, zt_1 201 (by decide +kernel) rfl⟩
theorem zf_X9_33 : zF RX9 33 8 6 := ⟨by decide, by decide, zt_1 202 (by decide +kernel) rfl⟩
theorem zf_X5_9 : zF RX5 9 4 0 := ⟨by decide, by decide, zt_1 218 (by decide +kernel) rfl⟩
theorem zf_X11_121 : zF RX11 121 4 0 := ⟨by decide, by decide, zt_1 219 (by decide +kernel) rfl⟩
theorem zf_X5_15 : zF RX5 15 4 1 := ⟨by decide, by decide, zt_1 220 (by decide +kernel) rfl⟩
theorem zf_X11_124 : zF RX11 124 4 1 := ⟨by decide, by decide, zt_1 221 (by decide +kernel) rfl⟩
theorem zf_X5_37 : zF RX5 37 4 2 := ⟨by decide, by decide, zt_1 222 (by decide +kernel) rfl⟩
theorem zf_X5_41 : zF RX5 41 4 3 := ⟨by decide, by decide, zt_1 223 (by decide +kernel) rfl⟩
theorem zf_X5_45 : zF RX5 45 4 4 := ⟨by decide, by decide, zt_1 224 (by decide +kernel) rfl⟩
theorem zf_X5_18 : zF RX5 18 4 5 := ⟨by decide, by decide, zt_1 225 (by decide +kernel) rfl⟩
theorem zf_X5_21 : zF RX5 21 4 6 := ⟨by decide, by decide, zt_1 226 (by decide +kernel) rfl⟩
theorem zf_X5_24 : zF RX5 24 4 7 := ⟨by decide, by decide, zt_1 227 (by decide +kernel) rfl⟩
theorem zf_X5_29 : zF RX5 29 4 8 := ⟨by decide, by decide, zt_1 228 (by decide +kernel) rfl⟩
theorem zf_X4_15 : zF RX4 15 3 0 := ⟨by decide, by decide, zt_2 16 (by decide +kernel) rfl⟩
theorem zf_X4_18 : zF RX4 18 3 1 := ⟨by decide, by decide, zt_2 17 (by decide +kernel) rfl⟩
theorem zf_X4_22 : zF RX4 22 3 2 := ⟨by decide, by decide, zt_2 18 (by decide +kernel) rfl⟩
theorem zf_X4_25 : zF RX4 25 3 3 := ⟨by decide, by decide, zt_2 19 (by decide +kernel) rfl⟩
theorem zf_X4_28 : zF RX4 28 3 4 := ⟨by decide, by decide, zt_2 20 (by decide +kernel) rfl⟩
theorem zf_X4_31 : zF RX4 31 3 5 := ⟨by decide, by decide, zt_2 21 (by decide +kernel) rfl⟩
theorem zf_X10_13 : zF RX10 13 9 0 := ⟨by decide, by decide, zt_2 44 (by decide +kernel) rfl⟩
theorem zf_X10_18 : zF RX10 18 9 1 := ⟨by decide, by decide, zt_2 45 (by decide +kernel) rfl⟩
theorem zf_X6_34 : zF RX6 34 5 0 := ⟨by decide, by decide, zt_2 55 (by decide +kernel) rfl⟩
theorem zf_X11_61 : zF RX11 61 5 0 := ⟨by decide, by decide, zt_2 56 (by decide +kernel) rfl⟩
theorem zf_X1_98 : zF RX1 98 5 0 := ⟨by decide, by decide, zt_2 57 (by decide +kernel) rfl⟩
theorem zf_X4_117 : zF RX4 117 5 0 := ⟨by decide, by decide, zt_2 58 (by decide +kernel) rfl⟩
theorem zf_X6_30 : zF RX6 30 5 1 := ⟨by decide, by decide, zt_2 59 (by decide +kernel) rfl⟩
theorem zf_X4_35 : zF RX4 35 5 1 := ⟨by decide, by decide, zt_2 60 (by decide +kernel) rfl⟩
theorem zf_X1_94 : zF RX1 94 5 1 := ⟨by decide, by decide, zt_2 61 (by decide +kernel) rfl⟩
theorem zf_X6_11 : zF RX6 11 5 2 := ⟨by decide, by decide, zt_2 62 (by decide +kernel) rfl⟩
theorem zf_X1_78 : zF RX1 78 5 2 := ⟨by decide, by decide, zt_2 63 (by decide +kernel) rfl⟩
theorem zf_X10_48 : zF RX10 48 5 2 := ⟨by decide, by decide, zt_2 64 (by decide +kernel) rfl⟩
theorem zf_X4_98 : zF RX4 98 5 2 := ⟨by decide, by decide, zt_2 65 (by decide +kernel) rfl⟩
theorem zf_X6_17 : zF RX6 17 5 3 := ⟨by decide, by decide, zt_2 66 (by decide +kernel) rfl⟩
theorem zf_X1_75 : zF RX1 75 5 3 := ⟨by decide, by decide, zt_2 67 (by decide +kernel) rfl⟩
theorem zf_X10_43 : zF RX10 43 5 3 := ⟨by decide, by decide, zt_2 68 (by decide +kernel) rfl⟩
theorem zf_X4_95 : zF RX4 95 5 3 := ⟨by decide, by decide, zt_2 69 (by decide +kernel) rfl⟩
theorem zf_X11_135 : zF RX11 135 5 3 := ⟨by decide, by decide, zt_2 70 (by decide +kernel) rfl⟩
theorem zf_X6_21 : zF RX6 21 5 4 := ⟨by decide, by decide, zt_2 71 (by decide +kernel) rfl⟩
theorem zf_X4_101 : zF RX4 101 5 4 := ⟨by decide, by decide, zt_2 72 (by decide +kernel) rfl⟩
theorem zf_X11_196 : zF RX11 196 5 4 := ⟨by decide, by decide, zt_2 73 (by decide +kernel) rfl⟩
theorem zf_X6_24 : zF RX6 24 5 5 := ⟨by decide, by decide, zt_2 74 (by decide +kernel) rfl⟩
theorem zf_X11_190 : zF RX11 190 5 5 := ⟨by decide, by decide, zt_2 75 (by decide +kernel) rfl⟩
theorem zf_X4_182 : zF RX4 182 5 5 := ⟨by decide, by decide, zt_2 76 (by decide +kernel) rfl⟩
theorem zf_X6_27 : zF RX6 27 5 6 := ⟨by decide, by decide, zt_2 77 (by decide +kernel) rfl⟩
theorem zf_X11_183 : zF RX11 183 5 6 := ⟨by decide, by decide, zt_2 78 (by decide +kernel) rfl⟩
theorem zf_X7_11 : zF RX7 11 6 0 := ⟨by decide, by decide, zt_2 101 (by decide +kernel) rfl⟩
theorem zf_X7_15 : zF RX7 15 6 1 := ⟨by decide, by decide, zt_2 102 (by decide +kernel) rfl⟩
theorem zf_X7_18 : zF RX7 18 6 2 := ⟨by decide, by decide, zt_2 103 (by decide +kernel) rfl⟩
theorem zf_X7_22 : zF RX7 22 6 3 := ⟨by decide, by decide, zt_2 104 (by decide +kernel) rfl⟩
theorem zf_X7_25 : zF RX7 25 6 4 := ⟨by decide, by decide, zt_2 105 (by decide +kernel) rfl⟩
theorem zf_X7_28 : zF RX7 28 6 5 := ⟨by decide, by decide, zt_2 106 (by decide +kernel) rfl⟩
theorem zf_X11_111 : zF RX11 111 6 5 := ⟨by decide, by decide, zt_2 107 (by decide +kernel) rfl⟩
theorem zf_X7_32 : zF RX7 32 6 6 := ⟨by decide, by decide, zt_2 108 (by decide +kernel) rfl⟩
theorem zf_X11_238 : zF RX11 238 6 6 := ⟨by decide, by decide, zt_2 109 (by decide +kernel) rfl⟩
theorem zf_X1_15 : zF RX1 15 1 0 := ⟨by decide, by decide, zt_2 137 (by decide +kernel) rfl⟩
theorem zf_X1_44 : zF RX1 44 1 1 := ⟨by decide, by decide, zt_2 138 (by decide +kernel) rfl⟩
theorem zf_X1_18 : zF RX1 18 1 2 := ⟨by decide, by decide, zt_2 139 (by decide +kernel) rfl⟩
theorem zf_X1_22 : zF RX1 22 1 3 := ⟨by decide, by decide, zt_2 140 (by decide +kernel) rfl⟩
theorem zf_X1_25 : zF RX1 25 1 4 := ⟨by decide, by decide, zt_2 141 (by decide +kernel) rfl⟩
theorem zf_X11_114 : zF RX11 114 1 4 := ⟨by decide, by decide, zt_2 142 (by decide +kernel) rfl⟩
theorem zf_X1_29 : zF RX1 29 1 5 := ⟨by decide, by decide, zt_2 143 (by decide +kernel) rfl⟩
theorem zf_X11_229 : zF RX11 229 1 5 := ⟨by decide, by decide, zt_2 144 (by decide +kernel) rfl⟩
theorem zf_X1_33 : zF RX1 33 1 6 := ⟨by decide, by decide, zt_2 145 (by decide +kernel) rfl⟩
theorem zf_X11_232 : zF RX11 232 1 6 := ⟨by decide, by decide, zt_2 146 (by decide +kernel) rfl⟩
theorem zf_X11_10 : zF RX11 10 10 0 := ⟨by decide, by decide, zt_2 175 (by decide +kernel) rfl⟩
theorem zf_X11_19 : zF RX11 19 10 1 := ⟨by decide, by decide, zt_2 176 (by decide +kernel) rfl⟩
theorem zf_X11_26 : zF RX11 26 10 2 := ⟨by decide, by decide, zt_2 177 (by decide +kernel) rfl⟩
theorem zf_X11_30 : zF RX11 30 10 3 := ⟨by decide, by decide, zt_2 178 (by decide +kernel) rfl⟩
theorem zf_X11_38 : zF RX11 38 10 4 := ⟨by decide, by decide, zt_2 179 (by decide +kernel) rfl⟩
theorem zf_X11_45 : zF RX11 45 10 5 := ⟨by decide, by decide, zt_2 180 (by decide +kernel) rfl⟩
theorem zf_X11_57 : zF RX11 57 10 6 := ⟨by decide, by decide, zt_2 181 (by decide +kernel) rfl⟩
theorem zf_X11_65 : zF RX11 65 10 7 := ⟨by decide, by decide, zt_2 182 (by decide +kernel) rfl⟩
theorem zf_X11_68 : zF RX11 68 10 8 := ⟨by decide, by decide, zt_2 183 (by decide +kernel) rfl⟩
theorem zf_X11_72 : zF RX11 72 10 9 := ⟨by decide, by decide, zt_2 184 (by decide +kernel) rfl⟩
theorem zf_X11_79 : zF RX11 79 10 10 := ⟨by decide, by decide, zt_2 185 (by decide +kernel) rfl⟩
theorem zf_X11_88 : zF RX11 88 10 11 := ⟨by decide, by decide, zt_2 186 (by decide +kernel) rfl⟩
theorem zf_X11_92 : zF RX11 92 10 12 := ⟨by decide, by decide, zt_2 187 (by decide +kernel) rfl⟩
theorem zf_X12_7 : zF RX12 7 11 0 := ⟨by decide, by decide, zt_5 79 (by decide +kernel) rfl⟩
theorem zf_X12_13 : zF RX12 13 11 1 := ⟨by decide, by decide, zt_5 80 (by decide +kernel) rfl⟩
theorem zf_X12_255 : zF RX12 255 11 2 := ⟨by decide, by decide, zt_5 81 (by decide +kernel) rfl⟩
theorem zf_X12_155 : zF RX12 155 11 3 := ⟨by decide, by decide, zt_5 82 (by decide +kernel) rfl⟩
theorem zf_X12_158 : zF RX12 158 11 4 := ⟨by decide, by decide, zt_5 83 (by decide +kernel) rfl⟩
theorem zf_X12_16 : zF RX12 16 11 5 := ⟨by decide, by decide, zt_5 84 (by decide +kernel) rfl⟩
theorem zf_X12_198 : zF RX12 198 11 6 := ⟨by decide, by decide, zt_5 85 (by decide +kernel) rfl⟩
theorem zf_X12_195 : zF RX12 195 11 7 := ⟨by decide, by decide, zt_5 86 (by decide +kernel) rfl⟩
theorem zf_X12_205 : zF RX12 205 11 8 := ⟨by decide, by decide, zt_5 87 (by decide +kernel) rfl⟩
theorem zf_X12_223 : zF RX12 223 11 9 := ⟨by decide, by decide, zt_5 88 (by decide +kernel) rfl⟩
theorem zf_X12_212 : zF RX12 212 11 10 := ⟨by decide, by decide, zt_5 89 (by decide +kernel) rfl⟩
theorem zf_X12_20 : zF RX12 20 11 11 := ⟨by decide, by decide, zt_5 90 (by decide +kernel) rfl⟩
theorem zf_X12_24 : zF RX12 24 11 12 := ⟨by decide, by decide, zt_5 91 (by decide +kernel) rfl⟩
theorem zf_X12_27 : zF RX12 27 11 13 := ⟨by decide, by decide, zt_5 92 (by decide +kernel) rfl⟩
theorem zf_X12_30 : zF RX12 30 11 14 := ⟨by decide, by decide, zt_5 93 (by decide +kernel) rfl⟩
theorem zf_X12_33 : zF RX12 33 11 15 := ⟨by decide, by decide, zt_5 94 (by decide +kernel) rfl⟩
theorem zf_X12_36 : zF RX12 36 11 16 := ⟨by decide, by decide, zt_5 95 (by decide +kernel) rfl⟩
theorem zf_X12_39 : zF RX12 39 11 17 := ⟨by decide, by decide, zt_5 96 (by decide +kernel) rfl⟩
theorem zf_X12_42 : zF RX12 42 11 18 := ⟨by decide, by decide, zt_5 97 (by decide +kernel) rfl⟩
theorem zf_X12_45 : zF RX12 45 11 19 := ⟨by decide, by decide, zt_5 98 (by decide +kernel) rfl⟩
theorem zf_X12_49 : zF RX12 49 11 20 := ⟨by decide, by decide, zt_5 99 (by decide +kernel) rfl⟩
theorem zf_X12_52 : zF RX12 52 11 21 := ⟨by decide, by decide, zt_5 100 (by decide +kernel) rfl⟩
theorem zf_X12_55 : zF RX12 55 11 22 := ⟨by decide, by decide, zt_5 101 (by decide +kernel) rfl⟩
theorem zf_X12_59 : zF RX12 59 11 23 := ⟨by decide, by decide, zt_5 102 (by decide +kernel) rfl⟩
theorem zf_X12_62 : zF RX12 62 11 24 := ⟨by decide, by decide, zt_5 103 (by decide +kernel) rfl⟩
theorem zf_X12_65 : zF RX12 65 11 25 := ⟨by decide, by decide, zt_5 104 (by decide +kernel) rfl⟩
theorem zf_X12_68 : zF RX12 68 11 26 := ⟨by decide, by decide, zt_5 105 (by decide +kernel) rfl⟩
theorem zf_X12_71 : zF RX12 71 11 27 := ⟨by decide, by decide, zt_5 106 (by decide +kernel) rfl⟩
theorem zf_X12_261 : zF RX12 261 11 28 := ⟨by decide, by decide, zt_5 107 (by decide +kernel) rfl⟩
theorem zf_X12_243 : zF RX12 243 11 29 := ⟨by decide, by decide, zt_5 108 (by decide +kernel) rfl⟩
theorem zf_X12_249 : zF RX12 249 11 30 := ⟨by decide, by decide, zt_5 109 (by decide +kernel) rfl⟩
theorem zf_X12_252 : zF RX12 252 11 31 := ⟨by decide, by decide, zt_5 110 (by decide +kernel) rfl⟩
theorem zf_X12_246 : zF RX12 246 11 32 := ⟨by decide, by decide, zt_5 111 (by decide +kernel) rfl⟩
theorem zf_X12_314 : zF RX12 314 11 33 := ⟨by decide, by decide, zt_5 112 (by decide +kernel) rfl⟩
theorem zf_X12_311 : zF RX12 311 11 34 := ⟨by decide, by decide, zt_5 113 (by decide +kernel) rfl⟩
theorem zf_X12_74 : zF RX12 74 11 35 := ⟨by decide, by decide, zt_5 114 (by decide +kernel) rfl⟩
theorem zf_X12_77 : zF RX12 77 11 36 := ⟨by decide, by decide, zt_5 115 (by decide +kernel) rfl⟩
theorem zf_X12_80 : zF RX12 80 11 37 := ⟨by decide, by decide, zt_5 116 (by decide +kernel) rfl⟩
theorem zf_X12_353 : zF RX12 353 11 38 := ⟨by decide, by decide, zt_5 117 (by decide +kernel) rfl⟩
theorem zf_X12_356 : zF RX12 356 11 39 := ⟨by decide, by decide, zt_5 118 (by decide +kernel) rfl⟩
theorem zf_X12_359 : zF RX12 359 11 40 := ⟨by decide, by decide, zt_5 119 (by decide +kernel) rfl⟩
theorem zf_X12_83 : zF RX12 83 11 41 := ⟨by decide, by decide, zt_5 120 (by decide +kernel) rfl⟩
theorem zf_X12_86 : zF RX12 86 11 42 := ⟨by decide, by decide, zt_5 121 (by decide +kernel) rfl⟩
theorem zf_X12_89 : zF RX12 89 11 43 := ⟨by decide, by decide, zt_5 122 (by decide +kernel) rfl⟩
theorem zf_X12_92 : zF RX12 92 11 44 := ⟨by decide, by decide, zt_5 123 (by decide +kernel) rfl⟩
theorem zf_X12_95 : zF RX12 95 11 45 := ⟨by decide, by decide, zt_5 124 (by decide +kernel) rfl⟩
theorem zf_X12_349 : zF RX12 349 11 46 := ⟨by decide, by decide, zt_5 125 (by decide +kernel) rfl⟩
theorem zf_X12_98 : zF RX12 98 11 47 := ⟨by decide, by decide, zt_5 126 (by decide +kernel) rfl⟩
theorem zf_X12_422 : zF RX12 422 11 48 := ⟨by decide, by decide, zt_5 127 (by decide +kernel) rfl⟩
theorem zf_X12_101 : zF RX12 101 11 49 := ⟨by decide, by decide, zt_5 128 (by decide +kernel) rfl⟩
theorem zf_X12_104 : zF RX12 104 11 50 := ⟨by decide, by decide, zt_5 129 (by decide +kernel) rfl⟩
theorem zf_X12_107 : zF RX12 107 11 51 := ⟨by decide, by decide, zt_5 130 (by decide +kernel) rfl⟩
theorem zf_X12_110 : zF RX12 110 11 52 := ⟨by decide, by decide, zt_5 131 (by decide +kernel) rfl⟩
theorem zf_X12_113 : zF RX12 113 11 53 := ⟨by decide, by decide, zt_5 132 (by decide +kernel) rfl⟩
theorem zf_X12_116 : zF RX12 116 11 54 := ⟨by decide, by decide, zt_5 133 (by decide +kernel) rfl⟩
theorem zf_X12_119 : zF RX12 119 11 55 := ⟨by decide, by decide, zt_5 134 (by decide +kernel) rfl⟩
theorem zf_X12_122 : zF RX12 122 11 56 := ⟨by decide, by decide, zt_5 135 (by decide +kernel) rfl⟩
theorem zf_X12_125 : zF RX12 125 11 57 := ⟨by decide, by decide, zt_5 136 (by decide +kernel) rfl⟩
theorem zf_X12_128 : zF RX12 128 11 58 := ⟨by decide, by decide, zt_5 137 (by decide +kernel) rfl⟩
theorem zf_X12_267 : zF RX12 267 11 59 := ⟨by decide, by decide, zt_5 138 (by decide +kernel) rfl⟩
theorem zf_X12_441 : zF RX12 441 11 60 := ⟨by decide, by decide, zt_5 139 (by decide +kernel) rfl⟩
theorem zf_X12_451 : zF RX12 451 11 61 := ⟨by decide, by decide, zt_5 140 (by decide +kernel) rfl⟩
theorem zf_X12_131 : zF RX12 131 11 62 := ⟨by decide, by decide, zt_5 141 (by decide +kernel) rfl⟩
theorem zf_X12_134 : zF RX12 134 11 63 := ⟨by decide, by decide, zt_5 142 (by decide +kernel) rfl⟩
theorem zf_X12_137 : zF RX12 137 11 64 := ⟨by decide, by decide, zt_5 143 (by decide +kernel) rfl⟩
theorem zf_X12_140 : zF RX12 140 11 65 := ⟨by decide, by decide, zt_5 144 (by decide +kernel) rfl⟩
theorem zf_X12_143 : zF RX12 143 11 66 := ⟨by decide, by decide, zt_5 145 (by decide +kernel) rfl⟩
theorem zf_X12_146 : zF RX12 146 11 67 := ⟨by decide, by decide, zt_5 146 (by decide +kernel) rfl⟩
theorem zl_L_9 : zC RL 9 zm_X11_init 0 := ⟨zt_1 25 (by decide +kernel) rfl, zk_X11_init, zt_1 1 (by decide +kernel) rfl, by decide +kernel, by decide⟩
theorem zl_X11_35 : zC RX11 35 zm_X5_init 3 := ⟨zt_1 137 (by decide +kernel) rfl, zk_X5_init, zt_1 5 (by decide +kernel) rfl, by decide +kernel, by decide⟩
theorem zl_X5_34 : zC RX5 34 zm_X9_init 1 := ⟨zt_1 143 (by decide +kernel) rfl, zk_X9_init, zt_1 6 (by decide +kernel) rfl, by decide +kernel, by decide⟩
theorem zl_X9_42 : zC RX9 42 zm_J0_length_8abf5 0 := ⟨zt_1 148 (by decide +kernel) rfl, zk_J0_length_8abf5, zt_1 7 (by decide +kernel) rfl, by decide +kernel, by decide⟩
theorem zl_J0_335 : zC RJ0 335 zm_J0_coder_7d493 0 := ⟨zt_1 152 (by decide +kernel) rfl, zk_J0_coder_7d493, zt_1 7 (by decide +kernel) rfl, by decide +kernel, by decide⟩
theorem zl_X9_48 : zC RX9 48 zm_J0_charAt_5068e 1 := ⟨zt_1 158 (by decide +kernel) rfl, zk_J0_charAt_5068e, zt_1 7 (by decide +kernel) rfl, by decide +kernel, by decide⟩
theorem zl_J0_492 : zC RJ0 492 zm_J0_isLatin1_aae02 0 := ⟨zt_1 162 (by decide +kernel) rfl, zk_J0_isLatin1_aae02, zt_1 7 (by decide +kernel) rfl, by decide +kernel, by decide⟩
theorem zl_J0_495 : zC RJ0 495 zm_J1_charAt_3b067 2 := ⟨zt_1 166 (by decide +kernel) rfl, zk_J1_charAt_3b067, zt_1 8 (by decide +kernel) rfl, by decide +kernel, by decide⟩
theorem zl_J1_9 : zC RJ1 9 zm_J0_checkIndex_df160 2 := ⟨zt_1 169 (by decide +kernel) rfl, zk_J0_checkIndex_df160, zt_1 7 (by decide +kernel) rfl, by decide +kernel, by decide⟩
theorem zl_J0_1059 : zC RJ0 1059 zm_J3_checkIndex_8e157 3 := ⟨zt_1 174 (by decide +kernel) rfl, zk_J3_checkIndex_8e157, zt_1 9 (by decide +kernel) rfl, by decide +kernel, by decide⟩
theorem zl_X11_54 : zC RX11 54 zm_X6_init 2 := ⟨zt_2 51 (by decide +kernel) rfl, zk_X6_init, zt_1 12 (by decide +kernel) rfl, by decide +kernel, by decide⟩
theorem zl_X11_85 : zC RX11 85 zm_X1_init 1 := ⟨zt_2 128 (by decide +kernel) rfl, zk_X1_init, zt_1 15 (by decide +kernel) rfl, by decide +kernel, by decide⟩
theorem zl_X1_41 : zC RX1 41 zm_X6_init 2 := ⟨zt_2 136 (by decide +kernel) rfl, zk_X6_init, zt_1 12 (by decide +kernel) rfl, by decide +kernel, by decide⟩
theorem zl_X11_96 : zC RX11 96 zm_X6_open 1 := ⟨zt_2 162 (by decide +kernel) rfl, zk_X6_open, zt_1 12 (by decide +kernel) rfl, by decide +kernel, by decide⟩
theorem zl_X6_38 : zC RX6 38 zm_X2_worldCount 0 := ⟨zt_2 166 (by decide +kernel) rfl, zk_X2_worldCount, zt_1 4 (by decide +kernel) rfl, by decide +kernel, by decide⟩
theorem zl_X6_42 : zC RX6 42 zm_X10_open 1 := ⟨zt_2 170 (by decide +kernel) rfl, zk_X10_open, zt_1 13 (by decide +kernel) rfl, by decide +kernel, by decide⟩
theorem zl_X10_26 : zC RX10 26 zm_X2_worldCount 0 := ⟨zt_2 174 (by decide +kernel) rfl, zk_X2_worldCount, zt_1 4 (by decide +kernel) rfl, by decide +kernel, by decide⟩
theorem zl_L_13 : zC RL 13 zm_X11_feed 5 := ⟨zt_2 215 (by decide +kernel) rfl, zk_X11_feed, zt_1 1 (by decide +kernel) rfl, by decide +kernel, by decide⟩
theorem zl_X11_99 : zC RX11 99 zm_X8_take 5 := ⟨zt_2 219 (by decide +kernel) rfl, zk_X8_take, zt_1 2 (by decide +kernel) rfl, by decide +kernel, by decide⟩
theorem zl_X8_19 : zC RX8 19 zm_X8_put 1 := ⟨zt_2 223 (by decide +kernel) rfl, zk_X8_put, zt_1 2 (by decide +kernel) rfl, by decide +kernel, by decide⟩
theorem zl_L_18 : zC RL 18 zm_X11_end 1 := ⟨zt_2 227 (by decide +kernel) rfl, zk_X11_end, zt_1 1 (by decide +kernel) rfl, by decide +kernel, by decide⟩
theorem zl_L_23 : zC RL 23 zm_X11_island 0 := ⟨zt_2 231 (by decide +kernel) rfl, zk_X11_island, zt_1 1 (by decide +kernel) rfl, by decide +kernel, by decide⟩
theorem zl_X11_107 : zC RX11 107 zm_X5_readIsland 1 := ⟨zt_2 235 (by decide +kernel) rfl, zk_X5_readIsland, zt_1 5 (by decide +kernel) rfl, by decide +kernel, by decide⟩
theorem zl_X5_49 : zC RX5 49 zm_X2_clear 0 := ⟨zt_2 239 (by decide +kernel) rfl, zk_X2_clear, zt_1 4 (by decide +kernel) rfl, by decide +kernel, by decide⟩
theorem zl_X5_55 : zC RX5 55 zm_X5_begin 3 := ⟨zt_3 3 (by decide +kernel) rfl, zk_X5_begin, zt_1 5 (by decide +kernel) rfl, by decide +kernel, by decide⟩
theorem zl_X5_90 : zC RX5 90 zm_X9_scan 0 := ⟨zt_3 7 (by decide +kernel) rfl, zk_X9_scan, zt_1 6 (by decide +kernel) rfl, by decide +kernel, by decide⟩
theorem zl_X9_52 : zC RX9 52 zm_X9_skipBlanks 0 := ⟨zt_3 11 (by decide +kernel) rfl, zk_X9_skipBlanks, zt_1 6 (by decide +kernel) rfl, by decide +kernel, by decide⟩
theorem zl_X9_60 : zC RX9 60 zm_X8_at 1 := ⟨zt_3 15 (by decide +kernel) rfl, zk_X8_at, zt_1 2 (by decide +kernel) rfl, by decide +kernel, by decide⟩
theorem zl_X9_55 : zC RX9 55 zm_X9_take 0 := ⟨zt_3 19 (by decide +kernel) rfl, zk_X9_take, zt_1 6 (by decide +kernel) rfl, by decide +kernel, by decide⟩
theorem zl_X9_63 : zC RX9 63 zm_X9_isLetter 1 := ⟨zt_3 23 (by decide +kernel) rfl, zk_X9_isLetter, zt_1 6 (by decide +kernel) rfl, by decide +kernel, by decide⟩
theorem zl_X9_67 : zC RX9 67 zm_X9_takeWord 0 := ⟨zt_3 26 (by decide +kernel) rfl, zk_X9_takeWord, zt_1 6 (by decide +kernel) rfl, by decide +kernel, by decide⟩
theorem zl_X9_70 : zC RX9 70 zm_X9_isDigit 1 := ⟨zt_3 30 (by decide +kernel) rfl, zk_X9_isDigit, zt_1 6 (by decide +kernel) rfl, by decide +kernel, by decide⟩
theorem zl_X9_73 : zC RX9 73 zm_X9_takeNumber 0 := ⟨zt_3 33 (by decide +kernel) rfl, zk_X9_takeNumber, zt_1 6 (by decide +kernel) rfl, by decide +kernel, by decide⟩
theorem zl_X9_78 : zC RX9 78 zm_J0_indexOf_0f7a4 1 := ⟨zt_3 38 (by decide +kernel) rfl, zk_J0_indexOf_0f7a4, zt_1 7 (by decide +kernel) rfl, by decide +kernel, by decide⟩
theorem zl_J0_633 : zC RJ0 633 zm_J0_indexOf_7cf53 2 := ⟨zt_3 42 (by decide +kernel) rfl, zk_J0_indexOf_7cf53, zt_1 7 (by decide +kernel) rfl, by decide +kernel, by decide⟩
theorem zl_J0_505 : zC RJ0 505 zm_J0_length_8abf5 0 := ⟨zt_3 46 (by decide +kernel) rfl, zk_J0_length_8abf5, zt_1 7 (by decide +kernel) rfl, by decide +kernel, by decide⟩
theorem zl_J0_637 : zC RJ0 637 zm_J1_indexOf_4cfef 4 := ⟨zt_3 47 (by decide +kernel) rfl, zk_J1_indexOf_4cfef, zt_1 8 (by decide +kernel) rfl, by decide +kernel, by decide⟩
theorem zl_J1_88 : zC RJ1 88 zm_J1_canEncode_9a6ad 1 := ⟨zt_3 50 (by decide +kernel) rfl, zk_J1_canEncode_9a6ad, zt_1 8 (by decide +kernel) rfl, by decide +kernel, by decide⟩
set_option maxRecDepth 40000 in
theorem zl_J1_92 : Cond.methodLink RJ1 92 Lib.Math.max.name ∈ zTb ∧ Cond.static Lib.Math.max.name ∈ zTb ∧ Cond.initialized "java/lang/Math" ∈ zTb ∧ Cond.code Lib.Math.max.name Lib.Math.max.code 2 (some .int) ∈ zTb := ⟨zt_3 53 (by decide +kernel) rfl, zt_3 54 (by decide +kernel) rfl, zt_1 17 (by decide +kernel) rfl, zt_3 55 rfl rfl⟩
set_option maxRecDepth 40000 in
theorem zl_J1_38 : Cond.methodLink RJ1 38 Lib.Math.min.name ∈ zTb ∧ Cond.static Lib.Math.min.name ∈ zTb ∧ Cond.initialized "java/lang/Math" ∈ zTb ∧ Cond.code Lib.Math.min.name Lib.Math.min.code 2 (some .int) ∈ zTb := ⟨zt_3 56 (by decide +kernel) rfl, zt_3 57 (by decide +kernel) rfl, zt_1 17 (by decide +kernel) rfl, zt_3 58 rfl rfl⟩
theorem zl_J1_95 : zC RJ1 95 zm_J1_indexOfChar_4cfef 4 := ⟨zt_3 59 (by decide +kernel) rfl, zk_J1_indexOfChar_4cfef, zt_1 8 (by decide +kernel) rfl, by decide +kernel, by decide⟩
set_option maxRecDepth 40000 in
theorem zl_J2_224 : Cond.methodLink RJ2 224 Lib.Math.max.name ∈ zTb ∧ Cond.static Lib.Math.max.name ∈ zTb ∧ Cond.initialized "java/lang/Math" ∈ zTb ∧ Cond.code Lib.Math.max.name Lib.Math.max.code 2 (some .int) ∈ zTb := ⟨zt_3 65 (by decide +kernel) rfl, zt_3 54 (by decide +kernel) rfl, zt_1 17 (by decide +kernel) rfl, zt_3 55 rfl rfl⟩
set_option maxRecDepth 40000 in
theorem zl_J2_183 : Cond.methodLink RJ2 183 Lib.Math.min.name ∈ zTb ∧ Cond.static Lib.Math.min.name ∈ zTb ∧ Cond.initialized "java/lang/Math" ∈ zTb ∧ Cond.code Lib.Math.min.name Lib.Math.min.code 2 (some .int) ∈ zTb := ⟨zt_3 66 (by decide +kernel) rfl, zt_3 57 (by decide +kernel) rfl, zt_1 17 (by decide +kernel) rfl, zt_3 58 rfl rfl⟩
theorem zl_J0_1062 : zC RJ0 1062 zm_J3_checkFromToIndex_8c36e 4 := ⟨zt_3 77 (by decide +kernel) rfl, zk_J3_checkFromToIndex_8c36e, zt_1 9 (by decide +kernel) rfl, by decide +kernel, by decide⟩
theorem zl_X5_93 : zC RX5 93 zm_X9_kindOf 1 := ⟨zt_3 97 (by decide +kernel) rfl, zk_X9_kindOf, zt_1 6 (by decide +kernel) rfl, by decide +kernel, by decide⟩
theorem zl_X5_61 : zC RX5 61 zm_X5_readPerson 0 := ⟨zt_3 101 (by decide +kernel) rfl, zk_X5_readPerson, zt_1 5 (by decide +kernel) rfl, by decide +kernel, by decide⟩
theorem zl_X5_97 : zC RX5 97 zm_X2_takesPeople 0 := ⟨zt_3 105 (by decide +kernel) rfl, zk_X2_takesPeople, zt_1 4 (by decide +kernel) rfl, by decide +kernel, by decide⟩
theorem zl_X5_73 : zC RX5 73 zm_X5_fail 1 := ⟨zt_3 109 (by decide +kernel) rfl, zk_X5_fail, zt_1 5 (by decide +kernel) rfl, by decide +kernel, by decide⟩
theorem zl_X5_180 : zC RX5 180 zm_X9_placeOf 1 := ⟨zt_3 113 (by decide +kernel) rfl, zk_X9_placeOf, zt_1 6 (by decide +kernel) rfl, by decide +kernel, by decide⟩
theorem zl_X5_101 : zC RX5 101 zm_X5_advance 0 := ⟨zt_3 117 (by decide +kernel) rfl, zk_X5_advance, zt_1 5 (by decide +kernel) rfl, by decide +kernel, by decide⟩
theorem zl_X5_104 : zC RX5 104 zm_X9_valueOf 1 := ⟨zt_3 121 (by decide +kernel) rfl, zk_X9_valueOf, zt_1 6 (by decide +kernel) rfl, by decide +kernel, by decide⟩
theorem zl_X5_111 : zC RX5 111 zm_X2_find 1 := ⟨zt_3 125 (by decide +kernel) rfl, zk_X2_find, zt_1 4 (by decide +kernel) rfl, by decide +kernel, by decide⟩
theorem zl_X5_115 : zC RX5 115 zm_X2_addPerson 1 := ⟨zt_3 129 (by decide +kernel) rfl, zk_X2_addPerson, zt_1 4 (by decide +kernel) rfl, by decide +kernel, by decide⟩
theorem zl_X5_119 : zC RX5 119 zm_X5_accept 1 := ⟨zt_3 133 (by decide +kernel) rfl, zk_X5_accept, zt_1 5 (by decide +kernel) rfl, by decide +kernel, by decide⟩
theorem zl_X5_126 : zC RX5 126 zm_X2_giveMirror 1 := ⟨zt_3 137 (by decide +kernel) rfl, zk_X2_giveMirror, zt_1 4 (by decide +kernel) rfl, by decide +kernel, by decide⟩
theorem zl_X2_59 : zC RX2 59 zm_X2_isPerson 1 := ⟨zt_3 141 (by decide +kernel) rfl, zk_X2_isPerson, zt_1 4 (by decide +kernel) rfl, by decide +kernel, by decide⟩
theorem zl_X5_64 : zC RX5 64 zm_X5_readBlind 0 := ⟨zt_3 145 (by decide +kernel) rfl, zk_X5_readBlind, zt_1 5 (by decide +kernel) rfl, by decide +kernel, by decide⟩
theorem zl_X5_135 : zC RX5 135 zm_X5_readName 0 := ⟨zt_3 149 (by decide +kernel) rfl, zk_X5_readName, zt_1 5 (by decide +kernel) rfl, by decide +kernel, by decide⟩
theorem zl_X5_139 : zC RX5 139 zm_X2_canBlind 2 := ⟨zt_3 153 (by decide +kernel) rfl, zk_X2_canBlind, zt_1 4 (by decide +kernel) rfl, by decide +kernel, by decide⟩
theorem zl_X5_143 : zC RX5 143 zm_X2_addBlind 2 := ⟨zt_3 157 (by decide +kernel) rfl, zk_X2_addBlind, zt_1 4 (by decide +kernel) rfl, by decide +kernel, by decide⟩
theorem zl_X5_67 : zC RX5 67 zm_X5_readLaw 0 := ⟨zt_3 161 (by decide +kernel) rfl, zk_X5_readLaw, zt_1 5 (by decide +kernel) rfl, by decide +kernel, by decide⟩
theorem zl_X5_77 : zC RX5 77 zm_X5_expect 1 := ⟨zt_3 165 (by decide +kernel) rfl, zk_X5_expect, zt_1 5 (by decide +kernel) rfl, by decide +kernel, by decide⟩
theorem zl_X5_70 : zC RX5 70 zm_X5_readSaying 0 := ⟨zt_3 169 (by decide +kernel) rfl, zk_X5_readSaying, zt_1 5 (by decide +kernel) rfl, by decide +kernel, by decide⟩
theorem zl_X5_86 : zC RX5 86 zm_X5_readPart 2 := ⟨zt_3 173 (by decide +kernel) rfl, zk_X5_readPart, zt_1 5 (by decide +kernel) rfl, by decide +kernel, by decide⟩
theorem zl_X5_159 : zC RX5 159 zm_X0_add 2 := ⟨zt_3 177 (by decide +kernel) rfl, zk_X0_add, zt_1 3 (by decide +kernel) rfl, by decide +kernel, by decide⟩
theorem zl_X5_162 : zC RX5 162 zm_X5_readUnit 1 := ⟨zt_3 181 (by decide +kernel) rfl, zk_X5_readUnit, zt_1 5 (by decide +kernel) rfl, by decide +kernel, by decide⟩
theorem zl_X5_168 : zC RX5 168 zm_X3_opens 1 := ⟨zt_3 185 (by decide +kernel) rfl, zk_X3_opens, zt_1 19 (by decide +kernel) rfl, by decide +kernel, by decide⟩
theorem zl_X5_171 : zC RX5 171 zm_X3_startsUnit 1 := ⟨zt_3 188 (by decide +kernel) rfl, zk_X3_startsUnit, zt_1 19 (by decide +kernel) rfl, by decide +kernel, by decide⟩
theorem zl_X3_11 : zC RX3 11 zm_X3_isLeaf 1 := ⟨zt_3 191 (by decide +kernel) rfl, zk_X3_isLeaf, zt_1 19 (by decide +kernel) rfl, by decide +kernel, by decide⟩
theorem zl_X3_15 : zC RX3 15 zm_X3_opens 1 := ⟨zt_3 194 (by decide +kernel) rfl, zk_X3_opens, zt_1 19 (by decide +kernel) rfl, by decide +kernel, by decide⟩
set_option maxRecDepth 40000 in
theorem zl_X5_174 : Cond.methodLink RX5 174 Lib.Math.max.name ∈ zTb ∧ Cond.static Lib.Math.max.name ∈ zTb ∧ Cond.initialized "java/lang/Math" ∈ zTb ∧ Cond.code Lib.Math.max.name Lib.Math.max.code 2 (some .int) ∈ zTb := ⟨zt_3 195 (by decide +kernel) rfl, zt_3 54 (by decide +kernel) rfl, zt_1 17 (by decide +kernel) rfl, zt_3 55 rfl rfl⟩
theorem zl_X5_165 : zC RX5 165 zm_X3_rankOf 1 := ⟨zt_3 196 (by decide +kernel) rfl, zk_X3_rankOf, zt_1 19 (by decide +kernel) rfl, by decide +kernel, by decide⟩
theorem zl_X5_156 : zC RX5 156 zm_X2_endSaying 0 := ⟨zt_3 199 (by decide +kernel) rfl, zk_X2_endSaying, zt_1 4 (by decide +kernel) rfl, by decide +kernel, by decide⟩
theorem zl_L_28 : zC RL 28 zm_X11_fault 1 := ⟨zt_3 203 (by decide +kernel) rfl, zk_X11_fault, zt_1 1 (by decide +kernel) rfl, by decide +kernel, by decide⟩
theorem zl_L_32 : zC RL 32 zm_X11_sees 1 := ⟨zt_3 207 (by decide +kernel) rfl, zk_X11_sees, zt_1 1 (by decide +kernel) rfl, by decide +kernel, by decide⟩
theorem zl_X11_127 : zC RX11 127 zm_X2_isPerson 1 := ⟨zt_3 211 (by decide +kernel) rfl, zk_X2_isPerson, zt_1 4 (by decide +kernel) rfl, by decide +kernel, by decide⟩
theorem zl_L_36 : zC RL 36 zm_X11_worlds 0 := ⟨zt_3 212 (by decide +kernel) rfl, zk_X11_worlds, zt_1 1 (by decide +kernel) rfl, by decide +kernel, by decide⟩
theorem zl_L_40 : zC RL 40 zm_X11_possible 1 := ⟨zt_3 216 (by decide +kernel) rfl, zk_X11_possible, zt_1 1 (by decide +kernel) rfl, by decide +kernel, by decide⟩
theorem zl_X11_136 : zC RX11 136 zm_X2_isWorld 1 := ⟨zt_3 220 (by decide +kernel) rfl, zk_X2_isWorld, zt_1 4 (by decide +kernel) rfl, by decide +kernel, by decide⟩
theorem zl_X2_55 : zC RX2 55 zm_X2_worldCount 0 := ⟨zt_3 224 (by decide +kernel) rfl, zk_X2_worldCount, zt_1 4 (by decide +kernel) rfl, by decide +kernel, by decide⟩
theorem zl_X11_139 : zC RX11 139 zm_X6_contains 1 := ⟨zt_3 225 (by decide +kernel) rfl, zk_X6_contains, zt_1 12 (by decide +kernel) rfl, by decide +kernel, by decide⟩
theorem zl_L_44 : zC RL 44 zm_X11_like 3 := ⟨zt_3 229 (by decide +kernel) rfl, zk_X11_like, zt_1 1 (by decide +kernel) rfl, by decide +kernel, by decide⟩
theorem zl_X11_142 : zC RX11 142 zm_X10_areAlike 3 := ⟨zt_3 233 (by decide +kernel) rfl, zk_X10_areAlike, zt_1 13 (by decide +kernel) rfl, by decide +kernel, by decide⟩
theorem zl_X10_33 : zC RX10 33 zm_X10_of 1 := ⟨zt_3 237 (by decide +kernel) rfl, zk_X10_of, zt_1 13 (by decide +kernel) rfl, by decide +kernel, by decide⟩
theorem zl_L_49 : zC RL 49 zm_X11_own 1 := ⟨zt_4 1 (by decide +kernel) rfl, zk_X11_own, zt_1 1 (by decide +kernel) rfl, by decide +kernel, by decide⟩
theorem zl_X11_146 : zC RX11 146 zm_X4_ownMark 2 := ⟨zt_4 5 (by decide +kernel) rfl, zk_X4_ownMark, zt_1 11 (by decide +kernel) rfl, by decide +kernel, by decide⟩
theorem zl_X4_121 : zC RX4 121 zm_X10_of 1 := ⟨zt_4 9 (by decide +kernel) rfl, zk_X10_of, zt_1 13 (by decide +kernel) rfl, by decide +kernel, by decide⟩
theorem zl_X4_165 : zC RX4 165 zm_X4_markOwn 3 := ⟨zt_4 10 (by decide +kernel) rfl, zk_X4_markOwn, zt_1 11 (by decide +kernel) rfl, by decide +kernel, by decide⟩
theorem zl_L_53 : zC RL 53 zm_X11_ask 0 := ⟨zt_4 14 (by decide +kernel) rfl, zk_X11_ask, zt_1 1 (by decide +kernel) rfl, by decide +kernel, by decide⟩
theorem zl_X11_150 : zC RX11 150 zm_X11_weighTape 0 := ⟨zt_4 18 (by decide +kernel) rfl, zk_X11_weighTape, zt_1 1 (by decide +kernel) rfl, by decide +kernel, by decide⟩
theorem zl_X11_244 : zC RX11 244 zm_X5_readFormula 2 := ⟨zt_4 22 (by decide +kernel) rfl, zk_X5_readFormula, zt_1 5 (by decide +kernel) rfl, by decide +kernel, by decide⟩
theorem zl_X11_251 : zC RX11 251 zm_X4_weigh 4 := ⟨zt_4 26 (by decide +kernel) rfl, zk_X4_weigh, zt_1 11 (by decide +kernel) rfl, by decide +kernel, by decide⟩
theorem zl_X4_55 : zC RX4 55 zm_X0_kindAt 1 := ⟨zt_4 30 (by decide +kernel) rfl, zk_X0_kindAt, zt_1 3 (by decide +kernel) rfl, by decide +kernel, by decide⟩
theorem zl_X4_61 : zC RX4 61 zm_X3_isLeaf 1 := ⟨zt_4 34 (by decide +kernel) rfl, zk_X3_isLeaf, zt_1 19 (by decide +kernel) rfl, by decide +kernel, by decide⟩
theorem zl_X4_67 : zC RX4 67 zm_X0_ofAt 1 := ⟨zt_4 35 (by decide +kernel) rfl, zk_X0_ofAt, zt_1 3 (by decide +kernel) rfl, by decide +kernel, by decide⟩
theorem zl_X4_70 : zC RX4 70 zm_X4_pushLeaf 3 := ⟨zt_4 39 (by decide +kernel) rfl, zk_X4_pushLeaf, zt_1 11 (by decide +kernel) rfl, by decide +kernel, by decide⟩
theorem zl_X4_104 : zC RX4 104 zm_X4_leaf 4 := ⟨zt_4 43 (by decide +kernel) rfl, zk_X4_leaf, zt_1 11 (by decide +kernel) rfl, by decide +kernel, by decide⟩
theorem zl_X4_108 : zC RX4 108 zm_J6_bitCount_0f7a4 1 := ⟨zt_4 46 (by decide +kernel) rfl, zk_J6_bitCount_0f7a4, zt_1 20 (by decide +kernel) rfl, by decide +kernel, by decide⟩
theorem zl_X4_74 : zC RX4 74 zm_X3_rankOf 1 := ⟨zt_4 52 (by decide +kernel) rfl, zk_X3_rankOf, zt_1 19 (by decide +kernel) rfl, by decide +kernel, by decide⟩
theorem zl_X4_77 : zC RX4 77 zm_X4_joinTop 2 := ⟨zt_4 53 (by decide +kernel) rfl, zk_X4_joinTop, zt_1 11 (by decide +kernel) rfl, by decide +kernel, by decide⟩
theorem zl_X4_113 : zC RX4 113 zm_X4_joined 3 := ⟨zt_4 57 (by decide +kernel) rfl, zk_X4_joined, zt_1 11 (by decide +kernel) rfl, by decide +kernel, by decide⟩
theorem zl_X4_81 : zC RX4 81 zm_X4_negate 2 := ⟨zt_4 60 (by decide +kernel) rfl, zk_X4_negate, zt_1 11 (by decide +kernel) rfl, by decide +kernel, by decide⟩
theorem zl_X4_85 : zC RX4 85 zm_X4_knowsOne 3 := ⟨zt_4 63 (by decide +kernel) rfl, zk_X4_knowsOne, zt_1 11 (by decide +kernel) rfl, by decide +kernel, by decide⟩
theorem zl_X4_127 : zC RX4 127 zm_X4_markKnown 3 := ⟨zt_4 67 (by decide +kernel) rfl, zk_X4_markKnown, zt_1 11 (by decide +kernel) rfl, by decide +kernel, by decide⟩
theorem zl_X4_89 : zC RX4 89 zm_X4_knowAll 2 := ⟨zt_4 71 (by decide +kernel) rfl, zk_X4_knowAll, zt_1 11 (by decide +kernel) rfl, by decide +kernel, by decide⟩
theorem zl_X4_131 : zC RX4 131 zm_J7_fill_53178 2 := ⟨zt_4 75 (by decide +kernel) rfl, zk_J7_fill_53178, zt_1 21 (by decide +kernel) rfl, by decide +kernel, by decide⟩
theorem zl_X4_140 : Cond.methodLink RX4 140 arraycopyName ∈ zTb ∧ Cond.native arraycopyName ∈ zTb ∧ Cond.static arraycopyName ∈ zTb ∧ Cond.initialized "java/lang/System" ∈ zTb := ⟨zt_4 78 (by decide +kernel) rfl, zt_4 80 (by decide +kernel) rfl, zt_4 79 (by decide +kernel) rfl, zt_1 22 (by decide +kernel) rfl⟩
theorem zl_X4_92 : zC RX4 92 zm_X4_knowInCommon 2 := ⟨zt_4 81 (by decide +kernel) rfl, zk_X4_knowInCommon, zt_1 11 (by decide +kernel) rfl, by decide +kernel, by decide⟩
theorem zl_X4_146 : zC RX4 146 zm_X4_linkGroups 1 := ⟨zt_4 85 (by decide +kernel) rfl, zk_X4_linkGroups, zt_1 11 (by decide +kernel) rfl, by decide +kernel, by decide⟩
theorem zl_X4_150 : zC RX4 150 zm_X4_rootOf 1 := ⟨zt_4 89 (by decide +kernel) rfl, zk_X4_rootOf, zt_1 11 (by decide +kernel) rfl, by decide +kernel, by decide⟩
set_option maxRecDepth 40000 in
theorem zl_X4_153 : Cond.methodLink RX4 153 Lib.Math.max.name ∈ zTb ∧ Cond.static Lib.Math.max.name ∈ zTb ∧ Cond.initialized "java/lang/Math" ∈ zTb ∧ Cond.code Lib.Math.max.name Lib.Math.max.code 2 (some .int) ∈ zTb := ⟨zt_4 93 (by decide +kernel) rfl, zt_3 54 (by decide +kernel) rfl, zt_1 17 (by decide +kernel) rfl, zt_3 55 rfl rfl⟩
set_option maxRecDepth 40000 in
theorem zl_X4_159 : Cond.methodLink RX4 159 Lib.Math.min.name ∈ zTb ∧ Cond.static Lib.Math.min.name ∈ zTb ∧ Cond.initialized "java/lang/Math" ∈ zTb ∧ Cond.code Lib.Math.min.name Lib.Math.min.code 2 (some .int) ∈ zTb := ⟨zt_4 94 (by decide +kernel) rfl, zt_3 57 (by decide +kernel) rfl, zt_1 17 (by decide +kernel) rfl, zt_3 58 rfl rfl⟩
theorem zl_X11_154 : zC RX11 154 zm_X4_result 0 := ⟨zt_4 95 (by decide +kernel) rfl, zk_X4_result, zt_1 11 (by decide +kernel) rfl, by decide +kernel, by decide⟩
theorem zl_L_57 : zC RL 57 zm_X11_holds 0 := ⟨zt_4 100 (by decide +kernel) rfl, zk_X11_holds, zt_1 1 (by decide +kernel) rfl, by decide +kernel, by decide⟩
theorem zl_X11_162 : zC RX11 162 zm_X6_countSo 1 := ⟨zt_4 104 (by decide +kernel) rfl, zk_X6_countSo, zt_1 12 (by decide +kernel) rfl, by decide +kernel, by decide⟩
theorem zl_L_61 : zC RL 61 zm_X11_deep 0 := ⟨zt_4 108 (by decide +kernel) rfl, zk_X11_deep, zt_1 1 (by decide +kernel) rfl, by decide +kernel, by decide⟩
theorem zl_X11_166 : zC RX11 166 zm_X4_depth 1 := ⟨zt_4 112 (by decide +kernel) rfl, zk_X4_depth, zt_1 11 (by decide +kernel) rfl, by decide +kernel, by decide⟩
theorem zl_L_65 : zC RL 65 zm_X11_say 0 := ⟨zt_4 116 (by decide +kernel) rfl, zk_X11_say, zt_1 1 (by decide +kernel) rfl, by decide +kernel, by decide⟩
theorem zl_X11_170 : zC RX11 170 zm_X6_hear 1 := ⟨zt_4 120 (by decide +kernel) rfl, zk_X6_hear, zt_1 12 (by decide +kernel) rfl, by decide +kernel, by decide⟩
theorem zl_X6_65 : zC RX6 65 zm_X6_keepSo 1 := ⟨zt_4 124 (by decide +kernel) rfl, zk_X6_keepSo, zt_1 12 (by decide +kernel) rfl, by decide +kernel, by decide⟩
theorem zl_L_69 : zC RL 69 zm_X11_saying 1 := ⟨zt_4 128 (by decide +kernel) rfl, zk_X11_saying, zt_1 1 (by decide +kernel) rfl, by decide +kernel, by decide⟩
theorem zl_X11_176 : zC RX11 176 zm_X4_weighSaying 2 := ⟨zt_4 132 (by decide +kernel) rfl, zk_X4_weighSaying, zt_1 11 (by decide +kernel) rfl, by decide +kernel, by decide⟩
theorem zl_X4_51 : zC RX4 51 zm_X4_weigh 4 := ⟨zt_4 136 (by decide +kernel) rfl, zk_X4_weigh, zt_1 11 (by decide +kernel) rfl, by decide +kernel, by decide⟩
theorem zl_L_73 : zC RL 73 zm_X11_whisper 1 := ⟨zt_4 137 (by decide +kernel) rfl, zk_X11_whisper, zt_1 1 (by decide +kernel) rfl, by decide +kernel, by decide⟩
theorem zl_X11_180 : zC RX11 180 zm_X2_arePeople 1 := ⟨zt_4 141 (by decide +kernel) rfl, zk_X2_arePeople, zt_1 4 (by decide +kernel) rfl, by decide +kernel, by decide⟩
theorem zl_X11_186 : zC RX11 186 zm_X10_split 3 := ⟨zt_4 145 (by decide +kernel) rfl, zk_X10_split, zt_1 13 (by decide +kernel) rfl, by decide +kernel, by decide⟩
theorem zl_X10_37 : zC RX10 37 zm_J7_fill_53178 2 := ⟨zt_4 149 (by decide +kernel) rfl, zk_J7_fill_53178, zt_1 21 (by decide +kernel) rfl, by decide +kernel, by decide⟩
theorem zl_L_77 : zC RL 77 zm_X11_night 0 := ⟨zt_4 150 (by decide +kernel) rfl, zk_X11_night, zt_1 1 (by decide +kernel) rfl, by decide +kernel, by decide⟩
theorem zl_X11_193 : zC RX11 193 zm_X4_pass 1 := ⟨zt_4 154 (by decide +kernel) rfl, zk_X4_pass, zt_1 11 (by decide +kernel) rfl, by decide +kernel, by decide⟩
theorem zl_X4_175 : zC RX4 175 zm_X4_findGoers 1 := ⟨zt_4 158 (by decide +kernel) rfl, zk_X4_findGoers, zt_1 11 (by decide +kernel) rfl, by decide +kernel, by decide⟩
theorem zl_X4_179 : zC RX4 179 zm_X6_keepEqual 2 := ⟨zt_4 162 (by decide +kernel) rfl, zk_X6_keepEqual, zt_1 12 (by decide +kernel) rfl, by decide +kernel, by decide⟩
theorem zl_L_81 : zC RL 81 zm_X11_gone 0 := ⟨zt_4 166 (by decide +kernel) rfl, zk_X11_gone, zt_1 1 (by decide +kernel) rfl, by decide +kernel, by decide⟩
theorem zl_L_85 : zC RL 85 zm_X11_when 1 := ⟨zt_4 170 (by decide +kernel) rfl, zk_X11_when, zt_1 1 (by decide +kernel) rfl, by decide +kernel, by decide⟩
theorem zl_X11_199 : zC RX11 199 zm_X6_follow 1 := ⟨zt_4 174 (by decide +kernel) rfl, zk_X6_follow, zt_1 12 (by decide +kernel) rfl, by decide +kernel, by decide⟩
theorem zl_X6_56 : Cond.methodLink RX6 56 arraycopyName ∈ zTb ∧ Cond.native arraycopyName ∈ zTb ∧ Cond.static arraycopyName ∈ zTb ∧ Cond.initialized "java/lang/System" ∈ zTb := ⟨zt_4 178 (by decide +kernel) rfl, zt_4 80 (by decide +kernel) rfl, zt_4 79 (by decide +kernel) rfl, zt_1 22 (by decide +kernel) rfl⟩
theorem zl_L_89 : zC RL 89 zm_X11_fewest 2 := ⟨zt_4 179 (by decide +kernel) rfl, zk_X11_fewest, zt_1 1 (by decide +kernel) rfl, by decide +kernel, by decide⟩
theorem zl_X11_203 : zC RX11 203 zm_X11_trySayings 0 := ⟨zt_4 183 (by decide +kernel) rfl, zk_X11_trySayings, zt_1 1 (by decide +kernel) rfl, by decide +kernel, by decide⟩
theorem zl_X11_255 : zC RX11 255 zm_J7_fill_d0a16 2 := ⟨zt_4 187 (by decide +kernel) rfl, zk_J7_fill_d0a16, zt_1 21 (by decide +kernel) rfl, by decide +kernel, by decide⟩
theorem zl_X11_261 : zC RX11 261 zm_X6_note 2 := ⟨zt_4 190 (by decide +kernel) rfl, zk_X6_note, zt_1 12 (by decide +kernel) rfl, by decide +kernel, by decide⟩
theorem zl_X11_265 : zC RX11 265 zm_X11_takeLeft 1 := ⟨zt_4 194 (by decide +kernel) rfl, zk_X11_takeLeft, zt_1 1 (by decide +kernel) rfl, by decide +kernel, by decide⟩
theorem zl_X11_269 : zC RX11 269 zm_X6_keepNoted 2 := ⟨zt_4 198 (by decide +kernel) rfl, zk_X6_keepNoted, zt_1 12 (by decide +kernel) rfl, by decide +kernel, by decide⟩
theorem zl_X11_207 : zC RX11 207 zm_J6_bitCount_0f7a4 1 := ⟨zt_4 202 (by decide +kernel) rfl, zk_J6_bitCount_0f7a4, zt_1 20 (by decide +kernel) rfl, by decide +kernel, by decide⟩
theorem zl_X11_213 : zC RX11 213 zm_X11_goJust 3 := ⟨zt_4 203 (by decide +kernel) rfl, zk_X11_goJust, zt_1 1 (by decide +kernel) rfl, by decide +kernel, by decide⟩
theorem zl_L_94 : zC RL 94 zm_X11_sight 3 := ⟨zt_4 207 (by decide +kernel) rfl, zk_X11_sight, zt_1 1 (by decide +kernel) rfl, by decide +kernel, by decide⟩
theorem zl_X11_216 : zC RX11 216 zm_X7_tell 3 := ⟨zt_4 211 (by decide +kernel) rfl, zk_X7_tell, zt_1 14 (by decide +kernel) rfl, by decide +kernel, by decide⟩
theorem zl_L_99 : zC RL 99 zm_X11_untell 1 := ⟨zt_4 215 (by decide +kernel) rfl, zk_X11_untell, zt_1 1 (by decide +kernel) rfl, by decide +kernel, by decide⟩
theorem zl_X11_220 : zC RX11 220 zm_X7_takeBack 1 := ⟨zt_4 219 (by decide +kernel) rfl, zk_X7_takeBack, zt_1 14 (by decide +kernel) rfl, by decide +kernel, by decide⟩
theorem zl_L_104 : zC RL 104 zm_X11_later 1 := ⟨zt_4 223 (by decide +kernel) rfl, zk_X11_later, zt_1 1 (by decide +kernel) rfl, by decide +kernel, by decide⟩
theorem zl_X11_223 : zC RX11 223 zm_X7_goOn 1 := ⟨zt_4 227 (by decide +kernel) rfl, zk_X7_goOn, zt_1 14 (by decide +kernel) rfl, by decide +kernel, by decide⟩
theorem zl_L_108 : zC RL 108 zm_X11_fits 1 := ⟨zt_4 232 (by decide +kernel) rfl, zk_X11_fits, zt_1 1 (by decide +kernel) rfl, by decide +kernel, by decide⟩
theorem zl_X11_226 : zC RX11 226 zm_X11_countFits 1 := ⟨zt_4 236 (by decide +kernel) rfl, zk_X11_countFits, zt_1 1 (by decide +kernel) rfl, by decide +kernel, by decide⟩
theorem zl_X11_272 : zC RX11 272 zm_X1_learn 3 := ⟨zt_5 0 (by decide +kernel) rfl, zk_X1_learn, zt_1 15 (by decide +kernel) rfl, by decide +kernel, by decide⟩
theorem zl_X1_48 : zC RX1 48 zm_J7_fill_53178 2 := ⟨zt_5 4 (by decide +kernel) rfl, zk_J7_fill_53178, zt_1 21 (by decide +kernel) rfl, by decide +kernel, by decide⟩
theorem zl_X1_54 : zC RX1 54 zm_X6_open 1 := ⟨zt_5 5 (by decide +kernel) rfl, zk_X6_open, zt_1 12 (by decide +kernel) rfl, by decide +kernel, by decide⟩
theorem zl_X1_61 : zC RX1 61 zm_X4_weighSaying 2 := ⟨zt_5 6 (by decide +kernel) rfl, zk_X4_weighSaying, zt_1 11 (by decide +kernel) rfl, by decide +kernel, by decide⟩
theorem zl_X1_67 : zC RX1 67 zm_X4_result 0 := ⟨zt_5 7 (by decide +kernel) rfl, zk_X4_result, zt_1 11 (by decide +kernel) rfl, by decide +kernel, by decide⟩
theorem zl_X1_71 : zC RX1 71 zm_X6_keepSo 1 := ⟨zt_5 8 (by decide +kernel) rfl, zk_X6_keepSo, zt_1 12 (by decide +kernel) rfl, by decide +kernel, by decide⟩
theorem zl_X1_83 : zC RX1 83 zm_X4_findGoers 1 := ⟨zt_5 9 (by decide +kernel) rfl, zk_X4_findGoers, zt_1 11 (by decide +kernel) rfl, by decide +kernel, by decide⟩
theorem zl_X1_90 : zC RX1 90 zm_X1_sendOne 4 := ⟨zt_5 10 (by decide +kernel) rfl, zk_X1_sendOne, zt_1 15 (by decide +kernel) rfl, by decide +kernel, by decide⟩
theorem zl_X1_102 : zC RX1 102 zm_X10_split 3 := ⟨zt_5 14 (by decide +kernel) rfl, zk_X10_split, zt_1 13 (by decide +kernel) rfl, by decide +kernel, by decide⟩
theorem zl_X11_276 : zC RX11 276 zm_X1_scan 3 := ⟨zt_5 15 (by decide +kernel) rfl, zk_X1_scan, zt_1 15 (by decide +kernel) rfl, by decide +kernel, by decide⟩
theorem zl_X1_106 : zC RX1 106 zm_X2_worldCount 0 := ⟨zt_5 19 (by decide +kernel) rfl, zk_X2_worldCount, zt_1 4 (by decide +kernel) rfl, by decide +kernel, by decide⟩
theorem zl_X1_110 : zC RX1 110 zm_X7_agree 2 := ⟨zt_5 20 (by decide +kernel) rfl, zk_X7_agree, zt_1 14 (by decide +kernel) rfl, by decide +kernel, by decide⟩
theorem zl_X7_36 : zC RX7 36 zm_X1_nightOf 2 := ⟨zt_5 24 (by decide +kernel) rfl, zk_X1_nightOf, zt_1 15 (by decide +kernel) rfl, by decide +kernel, by decide⟩
theorem zl_X7_42 : zC RX7 42 zm_X7_counts 2 := ⟨zt_5 27 (by decide +kernel) rfl, zk_X7_counts, zt_1 14 (by decide +kernel) rfl, by decide +kernel, by decide⟩
theorem zl_L_112 : zC RL 112 zm_X11_sure 2 := ⟨zt_5 31 (by decide +kernel) rfl, zk_X11_sure, zt_1 1 (by decide +kernel) rfl, by decide +kernel, by decide⟩
theorem zl_L_116 : zC RL 116 zm_X11_image 1 := ⟨zt_5 35 (by decide +kernel) rfl, zk_X11_image, zt_1 1 (by decide +kernel) rfl, by decide +kernel, by decide⟩
theorem zl_X11_235 : zC RX11 235 zm_X6_copy 1 := ⟨zt_5 39 (by decide +kernel) rfl, zk_X6_copy, zt_1 12 (by decide +kernel) rfl, by decide +kernel, by decide⟩
theorem zl_X6_48 : zC RX6 48 zm_X6_follow 1 := ⟨zt_5 43 (by decide +kernel) rfl, zk_X6_follow, zt_1 12 (by decide +kernel) rfl, by decide +kernel, by decide⟩
theorem zl_X6_52 : zC RX6 52 zm_X10_copy 1 := ⟨zt_5 44 (by decide +kernel) rfl, zk_X10_copy, zt_1 13 (by decide +kernel) rfl, by decide +kernel, by decide⟩
theorem zl_X10_51 : Cond.methodLink RX10 51 arraycopyName ∈ zTb ∧ Cond.native arraycopyName ∈ zTb ∧ Cond.static arraycopyName ∈ zTb ∧ Cond.initialized "java/lang/System" ∈ zTb := ⟨zt_5 48 (by decide +kernel) rfl, zt_4 80 (by decide +kernel) rfl, zt_4 79 (by decide +kernel) rfl, zt_1 22 (by decide +kernel) rfl⟩
theorem zl_L_120 : zC RL 120 zm_X11_back 1 := ⟨zt_5 49 (by decide +kernel) rfl, zk_X11_back, zt_1 1 (by decide +kernel) rfl, by decide +kernel, by decide⟩
theorem zl_L_124 : zC RL 124 zm_X11_about 1 := ⟨zt_5 53 (by decide +kernel) rfl, zk_X11_about, zt_1 1 (by decide +kernel) rfl, by decide +kernel, by decide⟩
theorem zl_L_12 : zC RL 12 zm_X12_init 0 := ⟨zt_5 59 (by decide +kernel) rfl, zk_X12_init, zt_1 16 (by decide +kernel) rfl, by decide +kernel, by decide⟩
theorem zl_X12_149 : zC RX12 149 zm_X12_clearBank 0 := ⟨zt_5 63 (by decide +kernel) rfl, zk_X12_clearBank, zt_1 16 (by decide +kernel) rfl, by decide +kernel, by decide⟩
theorem zl_X12_152 : zC RX12 152 zm_X12_begin 0 := ⟨zt_5 67 (by decide +kernel) rfl, zk_X12_begin, zt_1 16 (by decide +kernel) rfl, by decide +kernel, by decide⟩
theorem zl_X12_346 : zC RX12 346 zm_X12_worldMany 0 := ⟨zt_5 71 (by decide +kernel) rfl, zk_X12_worldMany, zt_1 16 (by decide +kernel) rfl, by decide +kernel, by decide⟩
theorem zl_X12_339 : zC RX12 339 zm_X12_manyOf 0 := ⟨zt_5 75 (by decide +kernel) rfl, zk_X12_manyOf, zt_1 16 (by decide +kernel) rfl, by decide +kernel, by decide⟩
theorem zl_L_27 : zC RL 27 zm_X12_island 0 := ⟨zt_6 44 (by decide +kernel) rfl, zk_X12_island, zt_1 16 (by decide +kernel) rfl, by decide +kernel, by decide⟩
theorem zl_X12_258 : zC RX12 258 zm_X12_beginText 0 := ⟨zt_6 48 (by decide +kernel) rfl, zk_X12_beginText, zt_1 16 (by decide +kernel) rfl, by decide +kernel, by decide⟩
theorem zl_X12_237 : zC RX12 237 zm_X12_goOn 0 := ⟨zt_6 52 (by decide +kernel) rfl, zk_X12_goOn, zt_1 16 (by decide +kernel) rfl, by decide +kernel, by decide⟩
theorem zl_X12_201 : zC RX12 201 zm_X12_sign 1 := ⟨zt_6 56 (by decide +kernel) rfl, zk_X12_sign, zt_1 16 (by decide +kernel) rfl, by decide +kernel, by decide⟩
theorem zl_X12_208 : zC RX12 208 zm_X12_isLetter 1 := ⟨zt_6 60 (by decide +kernel) rfl, zk_X12_isLetter, zt_1 16 (by decide +kernel) rfl, by decide +kernel, by decide⟩
theorem zl_X12_216 : zC RX12 216 zm_X12_isKept 1 := ⟨zt_6 63 (by decide +kernel) rfl, zk_X12_isKept, zt_1 16 (by decide +kernel) rfl, by decide +kernel, by decide⟩
theorem zl_X12_220 : zC RX12 220 zm_X12_isDigit 1 := ⟨zt_6 83 (by decide +kernel) rfl, zk_X12_isDigit, zt_1 16 (by decide +kernel) rfl, by decide +kernel, by decide⟩
theorem zl_X12_226 : zC RX12 226 zm_X12_isSign 1 := ⟨zt_6 86 (by decide +kernel) rfl, zk_X12_isSign, zt_1 16 (by decide +kernel) rfl, by decide +kernel, by decide⟩
theorem zl_X12_233 : zC RX12 233 zm_X12_isGood 0 := ⟨zt_6 89 (by decide +kernel) rfl, zk_X12_isGood, zt_1 16 (by decide +kernel) rfl, by decide +kernel, by decide⟩
theorem zl_X12_264 : zC RX12 264 zm_X12_readLine 0 := ⟨zt_6 93 (by decide +kernel) rfl, zk_X12_readLine, zt_1 16 (by decide +kernel) rfl, by decide +kernel, by decide⟩
theorem zl_X12_276 : zC RX12 276 zm_X12_isFull 0 := ⟨zt_6 97 (by decide +kernel) rfl, zk_X12_isFull, zt_1 16 (by decide +kernel) rfl, by decide +kernel, by decide⟩
theorem zl_X12_270 : zC RX12 270 zm_X12_isWord 1 := ⟨zt_6 101 (by decide +kernel) rfl, zk_X12_isWord, zt_1 16 (by decide +kernel) rfl, by decide +kernel, by decide⟩
theorem zl_X12_273 : zC RX12 273 zm_X12_isBehind 0 := ⟨zt_6 105 (by decide +kernel) rfl, zk_X12_isBehind, zt_1 16 (by decide +kernel) rfl, by decide +kernel, by decide⟩
theorem zl_X12_240 : zC RX12 240 zm_X12_misplaced 0 := ⟨zt_6 109 (by decide +kernel) rfl, zk_X12_misplaced, zt_1 16 (by decide +kernel) rfl, by decide +kernel, by decide⟩
theorem zl_X12_229 : zC RX12 229 zm_X12_fails 2 := ⟨zt_6 113 (by decide +kernel) rfl, zk_X12_fails, zt_1 16 (by decide +kernel) rfl, by decide +kernel, by decide⟩
theorem zl_X12_279 : zC RX12 279 zm_X12_readOne 0 := ⟨zt_6 117 (by decide +kernel) rfl, zk_X12_readOne, zt_1 16 (by decide +kernel) rfl, by decide +kernel, by decide⟩
theorem zl_X12_298 : zC RX12 298 zm_X12_here 0 := ⟨zt_6 121 (by decide +kernel) rfl, zk_X12_here, zt_1 16 (by decide +kernel) rfl, by decide +kernel, by decide⟩
theorem zl_X12_302 : zC RX12 302 zm_X12_flag 1 := ⟨zt_6 125 (by decide +kernel) rfl, zk_X12_flag, zt_1 16 (by decide +kernel) rfl, by decide +kernel, by decide⟩
theorem zl_X12_282 : zC RX12 282 zm_X12_readBlind 0 := ⟨zt_6 129 (by decide +kernel) rfl, zk_X12_readBlind, zt_1 16 (by decide +kernel) rfl, by decide +kernel, by decide⟩
theorem zl_X12_305 : zC RX12 305 zm_X12_known 1 := ⟨zt_6 133 (by decide +kernel) rfl, zk_X12_known, zt_1 16 (by decide +kernel) rfl, by decide +kernel, by decide⟩
theorem zl_X12_285 : zC RX12 285 zm_X12_readLaw 0 := ⟨zt_6 137 (by decide +kernel) rfl, zk_X12_readLaw, zt_1 16 (by decide +kernel) rfl, by decide +kernel, by decide⟩
theorem zl_X12_294 : zC RX12 294 zm_X12_must 1 := ⟨zt_6 141 (by decide +kernel) rfl, zk_X12_must, zt_1 16 (by decide +kernel) rfl, by decide +kernel, by decide⟩
theorem zl_X12_288 : zC RX12 288 zm_X12_readSaying 0 := ⟨zt_6 145 (by decide +kernel) rfl, zk_X12_readSaying, zt_1 16 (by decide +kernel) rfl, by decide +kernel, by decide⟩
theorem zl_X12_308 : zC RX12 308 zm_X12_f 0 := ⟨zt_6 149 (by decide +kernel) rfl, zk_X12_f, zt_1 16 (by decide +kernel) rfl, by decide +kernel, by decide⟩
theorem zl_X12_317 : zC RX12 317 zm_X12_pushE 3 := ⟨zt_6 153 (by decide +kernel) rfl, zk_X12_pushE, zt_1 16 (by decide +kernel) rfl, by decide +kernel, by decide⟩
theorem zl_X12_321 : zC RX12 321 zm_X12_unit 0 := ⟨zt_6 157 (by decide +kernel) rfl, zk_X12_unit, zt_1 16 (by decide +kernel) rfl, by decide +kernel, by decide⟩
theorem zl_X12_327 : zC RX12 327 zm_X12_unitHere 0 := ⟨zt_6 161 (by decide +kernel) rfl, zk_X12_unitHere, zt_1 16 (by decide +kernel) rfl, by decide +kernel, by decide⟩
theorem zl_X12_291 : zC RX12 291 zm_X12_stands 1 := ⟨zt_6 165 (by decide +kernel) rfl, zk_X12_stands, zt_1 16 (by decide +kernel) rfl, by decide +kernel, by decide⟩
theorem zl_X12_330 : zC RX12 330 zm_X12_emit 2 := ⟨zt_6 169 (by decide +kernel) rfl, zk_X12_emit, zt_1 16 (by decide +kernel) rfl, by decide +kernel, by decide⟩
theorem zl_X12_324 : zC RX12 324 zm_X12_behindUnit 0 := ⟨zt_6 173 (by decide +kernel) rfl, zk_X12_behindUnit, zt_1 16 (by decide +kernel) rfl, by decide +kernel, by decide⟩
theorem zl_X12_333 : zC RX12 333 zm_X12_rankHere 0 := ⟨zt_6 177 (by decide +kernel) rfl, zk_X12_rankHere, zt_1 16 (by decide +kernel) rfl, by decide +kernel, by decide⟩
theorem zl_X12_336 : zC RX12 336 zm_X12_isCompared 0 := ⟨zt_6 181 (by decide +kernel) rfl, zk_X12_isCompared, zt_1 16 (by decide +kernel) rfl, by decide +kernel, by decide⟩
theorem zl_L_31 : zC RL 31 zm_X12_fault 1 := ⟨zt_6 185 (by decide +kernel) rfl, zk_X12_fault, zt_1 16 (by decide +kernel) rfl, by decide +kernel, by decide⟩
theorem zl_L_35 : zC RL 35 zm_X12_sees 1 := ⟨zt_6 189 (by decide +kernel) rfl, zk_X12_sees, zt_1 16 (by decide +kernel) rfl, by decide +kernel, by decide⟩
theorem zl_X12_365 : zC RX12 365 zm_X12_isOne 1 := ⟨zt_6 193 (by decide +kernel) rfl, zk_X12_isOne, zt_1 16 (by decide +kernel) rfl, by decide +kernel, by decide⟩
theorem zl_X12_342 : zC RX12 342 zm_X12_isIn 3 := ⟨zt_6 197 (by decide +kernel) rfl, zk_X12_isIn, zt_1 16 (by decide +kernel) rfl, by decide +kernel, by decide⟩
theorem zl_X12_362 : zC RX12 362 zm_X12_seesOf 1 := ⟨zt_6 200 (by decide +kernel) rfl, zk_X12_seesOf, zt_1 16 (by decide +kernel) rfl, by decide +kernel, by decide⟩
theorem zl_L_39 : zC RL 39 zm_X12_worlds 0 := ⟨zt_6 204 (by decide +kernel) rfl, zk_X12_worlds, zt_1 16 (by decide +kernel) rfl, by decide +kernel, by decide⟩
theorem zl_L_43 : zC RL 43 zm_X12_possible 1 := ⟨zt_6 208 (by decide +kernel) rfl, zk_X12_possible, zt_1 16 (by decide +kernel) rfl, by decide +kernel, by decide⟩
theorem zl_X12_368 : zC RX12 368 zm_X12_isWorld 1 := ⟨zt_6 212 (by decide +kernel) rfl, zk_X12_isWorld, zt_1 16 (by decide +kernel) rfl, by decide +kernel, by decide⟩
theorem zl_L_48 : zC RL 48 zm_X12_like 3 := ⟨zt_6 216 (by decide +kernel) rfl, zk_X12_like, zt_1 16 (by decide +kernel) rfl, by decide +kernel, by decide⟩
theorem zl_X12_371 : zC RX12 371 zm_X12_areLike 3 := ⟨zt_6 220 (by decide +kernel) rfl, zk_X12_areLike, zt_1 16 (by decide +kernel) rfl, by decide +kernel, by decide⟩
theorem zl_L_56 : zC RL 56 zm_X12_ask 0 := ⟨zt_6 224 (by decide +kernel) rfl, zk_X12_ask, zt_1 16 (by decide +kernel) rfl, by decide +kernel, by decide⟩
theorem zl_X12_403 : zC RX12 403 zm_X12_readAlone 0 := ⟨zt_6 228 (by decide +kernel) rfl, zk_X12_readAlone, zt_1 16 (by decide +kernel) rfl, by decide +kernel, by decide⟩
theorem zl_X12_407 : zC RX12 407 zm_X12_work 2 := ⟨zt_6 233 (by decide +kernel) rfl, zk_X12_work, zt_1 16 (by decide +kernel) rfl, by decide +kernel, by decide⟩
theorem zl_X12_387 : zC RX12 387 zm_X12_plain 3 := ⟨zt_6 237 (by decide +kernel) rfl, zk_X12_plain, zt_1 16 (by decide +kernel) rfl, by decide +kernel, by decide⟩
theorem zl_X12_384 : zC RX12 384 zm_X12_bitsOf 1 := ⟨zt_7 1 (by decide +kernel) rfl, zk_X12_bitsOf, zt_1 16 (by decide +kernel) rfl, by decide +kernel, by decide⟩
theorem zl_X12_391 : zC RX12 391 zm_X12_knowsOf 2 := ⟨zt_7 4 (by decide +kernel) rfl, zk_X12_knowsOf, zt_1 16 (by decide +kernel) rfl, by decide +kernel, by decide⟩
theorem zl_X12_374 : zC RX12 374 zm_X12_doesKnow 3 := ⟨zt_7 8 (by decide +kernel) rfl, zk_X12_doesKnow, zt_1 16 (by decide +kernel) rfl, by decide +kernel, by decide⟩
theorem zl_X12_394 : zC RX12 394 zm_X12_allKnow 1 := ⟨zt_7 12 (by decide +kernel) rfl, zk_X12_allKnow, zt_1 16 (by decide +kernel) rfl, by decide +kernel, by decide⟩
theorem zl_X12_397 : zC RX12 397 zm_X12_commonOf 1 := ⟨zt_7 16 (by decide +kernel) rfl, zk_X12_commonOf, zt_1 16 (by decide +kernel) rfl, by decide +kernel, by decide⟩
theorem zl_X12_381 : zC RX12 381 zm_X12_layParts 0 := ⟨zt_7 20 (by decide +kernel) rfl, zk_X12_layParts, zt_1 16 (by decide +kernel) rfl, by decide +kernel, by decide⟩
theorem zl_X12_377 : zC RX12 377 zm_X12_layPart 1 := ⟨zt_7 24 (by decide +kernel) rfl, zk_X12_layPart, zt_1 16 (by decide +kernel) rfl, by decide +kernel, by decide⟩
theorem zl_X12_400 : zC RX12 400 zm_X12_two 3 := ⟨zt_7 28 (by decide +kernel) rfl, zk_X12_two, zt_1 16 (by decide +kernel) rfl, by decide +kernel, by decide⟩
theorem zl_X12_410 : zC RX12 410 zm_X12_theTrue 0 := ⟨zt_7 31 (by decide +kernel) rfl, zk_X12_theTrue, zt_1 16 (by decide +kernel) rfl, by decide +kernel, by decide⟩
theorem zl_L_60 : zC RL 60 zm_X12_holds 0 := ⟨zt_7 35 (by decide +kernel) rfl, zk_X12_holds, zt_1 16 (by decide +kernel) rfl, by decide +kernel, by decide⟩
theorem zl_L_64 : zC RL 64 zm_X12_deep 0 := ⟨zt_7 39 (by decide +kernel) rfl, zk_X12_deep, zt_1 16 (by decide +kernel) rfl, by decide +kernel, by decide⟩
theorem zl_X12_413 : zC RX12 413 zm_X12_isCommon 1 := ⟨zt_7 43 (by decide +kernel) rfl, zk_X12_isCommon, zt_1 16 (by decide +kernel) rfl, by decide +kernel, by decide⟩
theorem zl_L_68 : zC RL 68 zm_X12_say 0 := ⟨zt_7 47 (by decide +kernel) rfl, zk_X12_say, zt_1 16 (by decide +kernel) rfl, by decide +kernel, by decide⟩
theorem zl_X12_416 : zC RX12 416 zm_X12_strike 0 := ⟨zt_7 51 (by decide +kernel) rfl, zk_X12_strike, zt_1 16 (by decide +kernel) rfl, by decide +kernel, by decide⟩
theorem zl_L_72 : zC RL 72 zm_X12_saying 1 := ⟨zt_7 55 (by decide +kernel) rfl, zk_X12_saying, zt_1 16 (by decide +kernel) rfl, by decide +kernel, by decide⟩
theorem zl_L_76 : zC RL 76 zm_X12_whisper 1 := ⟨zt_7 59 (by decide +kernel) rfl, zk_X12_whisper, zt_1 16 (by decide +kernel) rfl, by decide +kernel, by decide⟩
theorem zl_L_80 : zC RL 80 zm_X12_night 0 := ⟨zt_7 63 (by decide +kernel) rfl, zk_X12_night, zt_1 16 (by decide +kernel) rfl, by decide +kernel, by decide⟩
theorem zl_X12_425 : zC RX12 425 zm_X12_oneNight 0 := ⟨zt_7 67 (by decide +kernel) rfl, zk_X12_oneNight, zt_1 16 (by decide +kernel) rfl, by decide +kernel, by decide⟩
theorem zl_X12_419 : zC RX12 419 zm_X12_goersIn 1 := ⟨zt_7 71 (by decide +kernel) rfl, zk_X12_goersIn, zt_1 16 (by decide +kernel) rfl, by decide +kernel, by decide⟩
theorem zl_L_84 : zC RL 84 zm_X12_gone 0 := ⟨zt_7 75 (by decide +kernel) rfl, zk_X12_gone, zt_1 16 (by decide +kernel) rfl, by decide +kernel, by decide⟩
theorem zl_L_52 : zC RL 52 zm_X12_own 1 := ⟨zt_7 79 (by decide +kernel) rfl, zk_X12_own, zt_1 16 (by decide +kernel) rfl, by decide +kernel, by decide⟩
theorem zl_L_88 : zC RL 88 zm_X12_when 1 := ⟨zt_7 83 (by decide +kernel) rfl, zk_X12_when, zt_1 16 (by decide +kernel) rfl, by decide +kernel, by decide⟩
theorem zl_X12_428 : zC RX12 428 zm_X12_keep 1 := ⟨zt_7 87 (by decide +kernel) rfl, zk_X12_keep, zt_1 16 (by decide +kernel) rfl, by decide +kernel, by decide⟩
theorem zl_X12_431 : zC RX12 431 zm_X12_bring 1 := ⟨zt_7 91 (by decide +kernel) rfl, zk_X12_bring, zt_1 16 (by decide +kernel) rfl, by decide +kernel, by decide⟩
theorem zl_L_93 : zC RL 93 zm_X12_fewest 2 := ⟨zt_7 95 (by decide +kernel) rfl, zk_X12_fewest, zt_1 16 (by decide +kernel) rfl, by decide +kernel, by decide⟩
theorem zl_X12_434 : zC RX12 434 zm_X12_goBy 2 := ⟨zt_7 99 (by decide +kernel) rfl, zk_X12_goBy, zt_1 16 (by decide +kernel) rfl, by decide +kernel, by decide⟩
theorem zl_X12_438 : zC RX12 438 zm_X12_saying 1 := ⟨zt_7 103 (by decide +kernel) rfl, zk_X12_saying, zt_1 16 (by decide +kernel) rfl, by decide +kernel, by decide⟩
theorem zl_L_98 : zC RL 98 zm_X12_sight 3 := ⟨zt_7 104 (by decide +kernel) rfl, zk_X12_sight, zt_1 16 (by decide +kernel) rfl, by decide +kernel, by decide⟩
theorem zl_L_103 : zC RL 103 zm_X12_untell 1 := ⟨zt_7 108 (by decide +kernel) rfl, zk_X12_untell, zt_1 16 (by decide +kernel) rfl, by decide +kernel, by decide⟩
theorem zl_L_107 : zC RL 107 zm_X12_later 1 := ⟨zt_7 112 (by decide +kernel) rfl, zk_X12_later, zt_1 16 (by decide +kernel) rfl, by decide +kernel, by decide⟩
theorem zl_L_111 : zC RL 111 zm_X12_fits 1 := ⟨zt_7 117 (by decide +kernel) rfl, zk_X12_fits, zt_1 16 (by decide +kernel) rfl, by decide +kernel, by decide⟩
theorem zl_X12_457 : zC RX12 457 zm_X12_fitsOf 2 := ⟨zt_7 121 (by decide +kernel) rfl, zk_X12_fitsOf, zt_1 16 (by decide +kernel) rfl, by decide +kernel, by decide⟩
theorem zl_X12_454 : zC RX12 454 zm_X12_fitsBy 3 := ⟨zt_7 125 (by decide +kernel) rfl, zk_X12_fitsBy, zt_1 16 (by decide +kernel) rfl, by decide +kernel, by decide⟩
theorem zl_X12_448 : zC RX12 448 zm_X12_nightOfAll 2 := ⟨zt_7 129 (by decide +kernel) rfl, zk_X12_nightOfAll, zt_1 16 (by decide +kernel) rfl, by decide +kernel, by decide⟩
theorem zl_X12_445 : zC RX12 445 zm_X12_goesIn 1 := ⟨zt_7 133 (by decide +kernel) rfl, zk_X12_goesIn, zt_1 16 (by decide +kernel) rfl, by decide +kernel, by decide⟩
theorem zl_L_115 : zC RL 115 zm_X12_sure 2 := ⟨zt_7 137 (by decide +kernel) rfl, zk_X12_sure, zt_1 16 (by decide +kernel) rfl, by decide +kernel, by decide⟩
theorem zl_L_119 : zC RL 119 zm_X12_image 1 := ⟨zt_7 141 (by decide +kernel) rfl, zk_X12_image, zt_1 16 (by decide +kernel) rfl, by decide +kernel, by decide⟩
theorem zl_L_123 : zC RL 123 zm_X12_back 1 := ⟨zt_7 145 (by decide +kernel) rfl, zk_X12_back, zt_1 16 (by decide +kernel) rfl, by decide +kernel, by decide⟩
theorem zl_L_127 : zC RL 127 zm_X12_about 1 := ⟨zt_7 149 (by decide +kernel) rfl, zk_X12_about, zt_1 16 (by decide +kernel) rfl, by decide +kernel, by decide⟩
theorem zl_L_17 : zC RL 17 zm_X12_feed 5 := ⟨zt_7 153 (by decide +kernel) rfl, zk_X12_feed, zt_1 16 (by decide +kernel) rfl, by decide +kernel, by decide⟩
theorem zl_L_22 : zC RL 22 zm_X12_end 1 := ⟨zt_7 157 (by decide +kernel) rfl, zk_X12_end, zt_1 16 (by decide +kernel) rfl, by decide +kernel, by decide⟩
theorem zi_J2_227 : Cond.constant RJ2 227 (65536) ∈ zTb := zt_3 67 (by decide +kernel) rfl
theorem zi_J11_110 : Cond.constant RJ11 110 (55232) ∈ zTb := zt_3 92 (by decide +kernel) rfl
theorem zi_J11_76 : Cond.constant RJ11 76 (56320) ∈ zTb := zt_3 96 (by decide +kernel) rfl
theorem zi_J6_265 : Cond.constant RJ6 265 (1431655765) ∈ zTb := zt_4 49 (by decide +kernel) rfl
theorem zi_J6_266 : Cond.constant RJ6 266 (858993459) ∈ zTb := zt_4 50 (by decide +kernel) rfl
theorem zi_J6_267 : Cond.constant RJ6 267 (252645135) ∈ zTb := zt_4 51 (by decide +kernel) rfl
theorem zi_X11_161 : Cond.constant RX11 161 (-1000000) ∈ zTb := zt_4 99 (by decide +kernel) rfl
theorem zi_X7_35 : Cond.constant RX7 35 (100000) ∈ zTb := zt_4 231 (by decide +kernel) rfl
theorem zi_X12_406 : Cond.constant RX12 406 (-1000000) ∈ zTb := zt_6 232 (by decide +kernel) rfl
theorem zi_X12_444 : Cond.constant RX12 444 (100000) ∈ zTb := zt_7 116 (by decide +kernel) rfl
theorem zj_X12_161 : Cond.constantLong RX12 161 (7302757) ∈ zTb := zt_6 66 (by decide +kernel) rfl
theorem zj_X12_163 : Cond.constantLong RX12 163 (120265298896228) ∈ zTb := zt_6 67 (by decide +kernel) rfl
theorem zj_X12_165 : Cond.constantLong RX12 165 (120299659095922) ∈ zTb := zt_6 68 (by decide +kernel) rfl
theorem zj_X12_167 : Cond.constantLong RX12 167 (495873784179) ∈ zTb := zt_6 69 (by decide +kernel) rfl
theorem zj_X12_169 : Cond.constantLong RX12 169 (422725643876) ∈ zTb := zt_6 70 (by decide +kernel) rfl
theorem zj_X12_171 : Cond.constantLong RX12 171 (7102839) ∈ zTb := zt_6 71 (by decide +kernel) rfl
theorem zj_X12_173 : Cond.constantLong RX12 173 (6840691) ∈ zTb := zt_6 72 (by decide +kernel) rfl
theorem zj_X12_175 : Cond.constantLong RX12 175 (7305070) ∈ zTb := zt_6 73 (by decide +kernel) rfl
theorem zj_X12_177 : Cond.constantLong RX12 177 (126862485974631) ∈ zTb := zt_6 74 (by decide +kernel) rfl
theorem zj_X12_179 : Cond.constantLong RX12 179 (469786323827) ∈ zTb := zt_6 75 (by decide +kernel) rfl
theorem zj_X12_181 : Cond.constantLong RX12 181 (1735356005) ∈ zTb := zt_6 76 (by decide +kernel) rfl
theorem zj_X12_183 : Cond.constantLong RX12 183 (461414299507) ∈ zTb := zt_6 77 (by decide +kernel) rfl
theorem zj_X12_185 : Cond.constantLong RX12 185 (6384748) ∈ zTb := zt_6 78 (by decide +kernel) rfl
theorem zj_X12_187 : Cond.constantLong RX12 187 (109330228408174) ∈ zTb := zt_6 79 (by decide +kernel) rfl
theorem zj_X12_189 : Cond.constantLong RX12 189 (6385252) ∈ zTb := zt_6 80 (by decide +kernel) rfl
theorem zj_X12_191 : Cond.constantLong RX12 191 (28530) ∈ zTb := zt_6 81 (by decide +kernel) rfl
theorem zj_X12_193 : Cond.constantLong RX12 193 (7237492) ∈ zTb := zt_6 82 (by decide +kernel) rfl
