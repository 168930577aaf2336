set_option maxRecDepth 100000 in
theorem od_Rf_findsWidths : gp_okd m_Rf_findsWidths := ⟨by decide +kernel, by decide +kernel, ow_Rf_findsWidths⟩
set_option maxRecDepth 100000 in
theorem od_Rf_widths : gp_okd m_Rf_widths := ⟨by decide +kernel, by decide +kernel, ow_Rf_widths⟩
set_option maxRecDepth 100000 in
theorem od_Rf_laid : gp_okd m_Rf_laid := ⟨by decide +kernel, by decide +kernel, ow_Rf_laid⟩
set_option maxRecDepth 100000 in
theorem od_Rf_isBeat : gp_okd m_Rf_isBeat := ⟨by decide +kernel, by decide +kernel, ow_Rf_isBeat⟩
set_option maxRecDepth 100000 in
theorem od_Rf_beat : gp_okd m_Rf_beat := ⟨by decide +kernel, by decide +kernel, ow_Rf_beat⟩
set_option maxRecDepth 100000 in
theorem od_Rf_found : gp_okd m_Rf_found := ⟨by decide +kernel, by decide +kernel, ow_Rf_found⟩
set_option maxRecDepth 100000 in
theorem od_Rf_far : gp_okd m_Rf_far := ⟨by decide +kernel, by decide +kernel, ow_Rf_far⟩
set_option maxRecDepth 100000 in
theorem od_Rf_isThen : gp_okd m_Rf_isThen := ⟨by decide +kernel, by decide +kernel, ow_Rf_isThen⟩
set_option maxRecDepth 100000 in
theorem od_Rf_years : gp_okd m_Rf_years := ⟨by decide +kernel, by decide +kernel, ow_Rf_years⟩
set_option maxRecDepth 100000 in
theorem od_Rf_distance : gp_okd m_Rf_distance := ⟨by decide +kernel, by decide +kernel, ow_Rf_distance⟩
set_option maxRecDepth 100000 in
theorem od_Rf_places : gp_okd m_Rf_places := ⟨by decide +kernel, by decide +kernel, ow_Rf_places⟩
set_option maxRecDepth 100000 in
theorem od_Rf_toldBy : gp_okd m_Rf_toldBy := ⟨by decide +kernel, by decide +kernel, ow_Rf_toldBy⟩
set_option maxRecDepth 100000 in
theorem od_Rf_told : gp_okd m_Rf_told := ⟨by decide +kernel, by decide +kernel, ow_Rf_told⟩
set_option maxRecDepth 100000 in
theorem od_Rf_costOfSet : gp_okd m_Rf_costOfSet := ⟨by decide +kernel, by decide +kernel, ow_Rf_costOfSet⟩
set_option maxRecDepth 100000 in
theorem od_Rf_worth : gp_okd m_Rf_worth := ⟨by decide +kernel, by decide +kernel, ow_Rf_worth⟩
set_option maxRecDepth 100000 in
theorem od_Rf_best : gp_okd m_Rf_best := ⟨by decide +kernel, by decide +kernel, ow_Rf_best⟩
set_option maxRecDepth 100000 in
theorem od_Rf_allMarks : gp_okd m_Rf_allMarks := ⟨by decide +kernel, by decide +kernel, ow_Rf_allMarks⟩
set_option maxRecDepth 100000 in
theorem od_Rf_never : gp_okd m_Rf_never := ⟨by decide +kernel, by decide +kernel, ow_Rf_never⟩
set_option maxRecDepth 100000 in
theorem od_Rf_deeper : gp_okd m_Rf_deeper := ⟨by decide +kernel, by decide +kernel, ow_Rf_deeper⟩
set_option maxRecDepth 100000 in
theorem od_Rf_trial : gp_okd m_Rf_trial := ⟨by decide +kernel, by decide +kernel, ow_Rf_trial⟩
set_option maxRecDepth 100000 in
theorem od_Rf_cheapestNow : gp_okd m_Rf_cheapestNow := ⟨by decide +kernel, by decide +kernel, ow_Rf_cheapestNow⟩
set_option maxRecDepth 100000 in
theorem od_Rf_agrees : gp_okd m_Rf_agrees := ⟨by decide +kernel, by decide +kernel, ow_Rf_agrees⟩
set_option maxRecDepth 100000 in
theorem od_Rf_isOfThis : gp_okd m_Rf_isOfThis := ⟨by decide +kernel, by decide +kernel, ow_Rf_isOfThis⟩
set_option maxRecDepth 100000 in
theorem od_Rf_ours : gp_okd m_Rf_ours := ⟨by decide +kernel, by decide +kernel, ow_Rf_ours⟩
set_option maxRecDepth 100000 in
theorem od_Rf_look : gp_okd m_Rf_look := ⟨by decide +kernel, by decide +kernel, ow_Rf_look⟩
set_option maxRecDepth 100000 in
theorem od_Ji_bitCount : gp_okd m_Ji_bitCount := ⟨by decide +kernel, by decide +kernel, ow_Ji_bitCount⟩
set_option maxRecDepth 100000 in
theorem od_Js_length : gp_okd m_Js_length := ⟨by decide +kernel, by decide +kernel, ow_Js_length⟩
set_option maxRecDepth 100000 in
theorem od_Js_charAt : gp_okd m_Js_charAt := ⟨by decide +kernel, by decide +kernel, ow_Js_charAt⟩
set_option maxRecDepth 100000 in
theorem od_Js_indexOf : gp_okd m_Js_indexOf := ⟨by decide +kernel, by decide +kernel, ow_Js_indexOf⟩
set_option maxRecDepth 100000 in
theorem od_Js_indexOf_d33 : gp_okd m_Js_indexOf_d33 := ⟨by decide +kernel, by decide +kernel, ow_Js_indexOf_d33⟩
set_option maxRecDepth 100000 in
theorem od_Js_coder : gp_okd m_Js_coder := ⟨by decide +kernel, by decide +kernel, ow_Js_coder⟩
set_option maxRecDepth 100000 in
theorem od_Js_isLatin1 : gp_okd m_Js_isLatin1 := ⟨by decide +kernel, by decide +kernel, ow_Js_isLatin1⟩
set_option maxRecDepth 100000 in
theorem od_Js_checkIndex : gp_okd m_Js_checkIndex := ⟨by decide +kernel, by decide +kernel, ow_Js_checkIndex⟩
set_option maxRecDepth 100000 in
theorem od_Js_checkBoundsBeginEnd : gp_okd m_Js_checkBoundsBeginEnd := ⟨by decide +kernel, by decide +kernel, ow_Js_checkBoundsBeginEnd⟩
set_option maxRecDepth 100000 in
theorem od_Jl_charAt : gp_okd m_Jl_charAt := ⟨by decide +kernel, by decide +kernel, ow_Jl_charAt⟩
set_option maxRecDepth 100000 in
theorem od_Jl_canEncode : gp_okd m_Jl_canEncode := ⟨by decide +kernel, by decide +kernel, ow_Jl_canEncode⟩
set_option maxRecDepth 100000 in
theorem od_Jl_indexOf : gp_okd m_Jl_indexOf := ⟨by decide +kernel, by decide +kernel, ow_Jl_indexOf⟩
set_option maxRecDepth 100000 in
theorem od_Jl_indexOfChar : gp_okd m_Jl_indexOfChar := ⟨by decide +kernel, by decide +kernel, ow_Jl_indexOfChar⟩
set_option maxRecDepth 100000 in
theorem od_Jp_checkIndex : gp_okd m_Jp_checkIndex := ⟨by decide +kernel, by decide +kernel, ow_Jp_checkIndex⟩
set_option maxRecDepth 100000 in
theorem od_Jp_checkFromToIndex : gp_okd m_Jp_checkFromToIndex := ⟨by decide +kernel, by decide +kernel, ow_Jp_checkFromToIndex⟩
