set_option maxRecDepth 100000 in
theorem od_Br_init : gp_okd m_Br_init := ⟨by decide +kernel, by decide +kernel, ow_Br_init⟩
set_option maxRecDepth 100000 in
theorem od_Br_append : gp_okd m_Br_append := ⟨by decide +kernel, by decide +kernel, ow_Br_append⟩
set_option maxRecDepth 100000 in
theorem od_Br_foldsBy : gp_okd m_Br_foldsBy := ⟨by decide +kernel, by decide +kernel, ow_Br_foldsBy⟩
set_option maxRecDepth 100000 in
theorem od_Br_edges : gp_okd m_Br_edges := ⟨by decide +kernel, by decide +kernel, ow_Br_edges⟩
set_option maxRecDepth 100000 in
theorem od_Br_placeOf : gp_okd m_Br_placeOf := ⟨by decide +kernel, by decide +kernel, ow_Br_placeOf⟩
set_option maxRecDepth 100000 in
theorem od_Br_agreements : gp_okd m_Br_agreements := ⟨by decide +kernel, by decide +kernel, ow_Br_agreements⟩
set_option maxRecDepth 100000 in
theorem od_Br_isHalf : gp_okd m_Br_isHalf := ⟨by decide +kernel, by decide +kernel, ow_Br_isHalf⟩
set_option maxRecDepth 100000 in
theorem od_Br_heightFor : gp_okd m_Br_heightFor := ⟨by decide +kernel, by decide +kernel, ow_Br_heightFor⟩
set_option maxRecDepth 100000 in
theorem od_Ch_init : gp_okd m_Ch_init := ⟨by decide +kernel, by decide +kernel, ow_Ch_init⟩
set_option maxRecDepth 100000 in
theorem od_Ch_findBest : gp_okd m_Ch_findBest := ⟨by decide +kernel, by decide +kernel, ow_Ch_findBest⟩
set_option maxRecDepth 100000 in
theorem od_Ch_ableMarks : gp_okd m_Ch_ableMarks := ⟨by decide +kernel, by decide +kernel, ow_Ch_ableMarks⟩
set_option maxRecDepth 100000 in
theorem od_Ch_grow : gp_okd m_Ch_grow := ⟨by decide +kernel, by decide +kernel, ow_Ch_grow⟩
set_option maxRecDepth 100000 in
theorem od_Ch_gains : gp_okd m_Ch_gains := ⟨by decide +kernel, by decide +kernel, ow_Ch_gains⟩
set_option maxRecDepth 100000 in
theorem od_Ch_judge : gp_okd m_Ch_judge := ⟨by decide +kernel, by decide +kernel, ow_Ch_judge⟩
set_option maxRecDepth 100000 in
theorem od_Ch_scoreOf : gp_okd m_Ch_scoreOf := ⟨by decide +kernel, by decide +kernel, ow_Ch_scoreOf⟩
set_option maxRecDepth 100000 in
theorem od_Mk_init : gp_okd m_Mk_init := ⟨by decide +kernel, by decide +kernel, ow_Mk_init⟩
set_option maxRecDepth 100000 in
theorem od_Mk_takenFor : gp_okd m_Mk_takenFor := ⟨by decide +kernel, by decide +kernel, ow_Mk_takenFor⟩
set_option maxRecDepth 100000 in
theorem od_Mi_init : gp_okd m_Mi_init := ⟨by decide +kernel, by decide +kernel, ow_Mi_init⟩
set_option maxRecDepth 100000 in
theorem od_Mi_clear : gp_okd m_Mi_clear := ⟨by decide +kernel, by decide +kernel, ow_Mi_clear⟩
set_option maxRecDepth 100000 in
theorem od_Mi_priceBy : gp_okd m_Mi_priceBy := ⟨by decide +kernel, by decide +kernel, ow_Mi_priceBy⟩
set_option maxRecDepth 100000 in
theorem od_Mi_rankBy : gp_okd m_Mi_rankBy := ⟨by decide +kernel, by decide +kernel, ow_Mi_rankBy⟩
set_option maxRecDepth 100000 in
theorem od_Pa_init : gp_okd m_Pa_init := ⟨by decide +kernel, by decide +kernel, ow_Pa_init⟩
set_option maxRecDepth 100000 in
theorem od_Pa_addBytes : gp_okd m_Pa_addBytes := ⟨by decide +kernel, by decide +kernel, ow_Pa_addBytes⟩
set_option maxRecDepth 100000 in
theorem od_Pa_forget : gp_okd m_Pa_forget := ⟨by decide +kernel, by decide +kernel, ow_Pa_forget⟩
set_option maxRecDepth 100000 in
theorem od_Pa_scan : gp_okd m_Pa_scan := ⟨by decide +kernel, by decide +kernel, ow_Pa_scan⟩
set_option maxRecDepth 100000 in
theorem od_Pa_scanRun : gp_okd m_Pa_scanRun := ⟨by decide +kernel, by decide +kernel, ow_Pa_scanRun⟩
set_option maxRecDepth 100000 in
theorem od_Pa_addToken : gp_okd m_Pa_addToken := ⟨by decide +kernel, by decide +kernel, ow_Pa_addToken⟩
set_option maxRecDepth 100000 in
theorem od_Pa_runEnd : gp_okd m_Pa_runEnd := ⟨by decide +kernel, by decide +kernel, ow_Pa_runEnd⟩
set_option maxRecDepth 100000 in
theorem od_Pa_isLetter : gp_okd m_Pa_isLetter := ⟨by decide +kernel, by decide +kernel, ow_Pa_isLetter⟩
set_option maxRecDepth 100000 in
theorem od_Pa_isDigit : gp_okd m_Pa_isDigit := ⟨by decide +kernel, by decide +kernel, ow_Pa_isDigit⟩
set_option maxRecDepth 100000 in
theorem od_Pa_numberOf : gp_okd m_Pa_numberOf := ⟨by decide +kernel, by decide +kernel, ow_Pa_numberOf⟩
set_option maxRecDepth 100000 in
theorem od_Pa_keyword : gp_okd m_Pa_keyword := ⟨by decide +kernel, by decide +kernel, ow_Pa_keyword⟩
set_option maxRecDepth 100000 in
theorem od_Pa_indexIn : gp_okd m_Pa_indexIn := ⟨by decide +kernel, by decide +kernel, ow_Pa_indexIn⟩
set_option maxRecDepth 100000 in
theorem od_Pa_standsAt : gp_okd m_Pa_standsAt := ⟨by decide +kernel, by decide +kernel, ow_Pa_standsAt⟩
set_option maxRecDepth 100000 in
theorem od_Pa_readsText : gp_okd m_Pa_readsText := ⟨by decide +kernel, by decide +kernel, ow_Pa_readsText⟩
set_option maxRecDepth 100000 in
theorem od_Pa_readLine : gp_okd m_Pa_readLine := ⟨by decide +kernel, by decide +kernel, ow_Pa_readLine⟩
set_option maxRecDepth 100000 in
theorem od_Pa_readNumber : gp_okd m_Pa_readNumber := ⟨by decide +kernel, by decide +kernel, ow_Pa_readNumber⟩
set_option maxRecDepth 100000 in
theorem od_Pa_condition : gp_okd m_Pa_condition := ⟨by decide +kernel, by decide +kernel, ow_Pa_condition⟩
set_option maxRecDepth 100000 in
theorem od_Pa_check : gp_okd m_Pa_check := ⟨by decide +kernel, by decide +kernel, ow_Pa_check⟩
set_option maxRecDepth 100000 in
theorem od_Pa_expectComparison : gp_okd m_Pa_expectComparison := ⟨by decide +kernel, by decide +kernel, ow_Pa_expectComparison⟩
set_option maxRecDepth 100000 in
theorem od_Pa_expression : gp_okd m_Pa_expression := ⟨by decide +kernel, by decide +kernel, ow_Pa_expression⟩
set_option maxRecDepth 100000 in
theorem od_Pa_unit : gp_okd m_Pa_unit := ⟨by decide +kernel, by decide +kernel, ow_Pa_unit⟩
set_option maxRecDepth 100000 in
theorem od_Pa_part : gp_okd m_Pa_part := ⟨by decide +kernel, by decide +kernel, ow_Pa_part⟩
set_option maxRecDepth 100000 in
theorem od_Pa_expect : gp_okd m_Pa_expect := ⟨by decide +kernel, by decide +kernel, ow_Pa_expect⟩
set_option maxRecDepth 100000 in
theorem od_Pa_kind : gp_okd m_Pa_kind := ⟨by decide +kernel, by decide +kernel, ow_Pa_kind⟩
set_option maxRecDepth 100000 in
theorem od_Pa_fail : gp_okd m_Pa_fail := ⟨by decide +kernel, by decide +kernel, ow_Pa_fail⟩
set_option maxRecDepth 100000 in
theorem od_Pa_emit : gp_okd m_Pa_emit := ⟨by decide +kernel, by decide +kernel, ow_Pa_emit⟩
set_option maxRecDepth 100000 in
theorem od_Pl_init : gp_okd m_Pl_init := ⟨by decide +kernel, by decide +kernel, ow_Pl_init⟩
set_option maxRecDepth 100000 in
theorem od_Pl_has : gp_okd m_Pl_has := ⟨by decide +kernel, by decide +kernel, ow_Pl_has⟩
set_option maxRecDepth 100000 in
theorem od_Pl_all : gp_okd m_Pl_all := ⟨by decide +kernel, by decide +kernel, ow_Pl_all⟩
set_option maxRecDepth 100000 in
theorem od_Pl_leftOf : gp_okd m_Pl_leftOf := ⟨by decide +kernel, by decide +kernel, ow_Pl_leftOf⟩
set_option maxRecDepth 100000 in
theorem od_Pl_wearOf : gp_okd m_Pl_wearOf := ⟨by decide +kernel, by decide +kernel, ow_Pl_wearOf⟩
set_option maxRecDepth 100000 in
theorem od_Pl_chainOf : gp_okd m_Pl_chainOf := ⟨by decide +kernel, by decide +kernel, ow_Pl_chainOf⟩
set_option maxRecDepth 100000 in
theorem od_Pl_rootsOf : gp_okd m_Pl_rootsOf := ⟨by decide +kernel, by decide +kernel, ow_Pl_rootsOf⟩
set_option maxRecDepth 100000 in
theorem od_Pl_canSee : gp_okd m_Pl_canSee := ⟨by decide +kernel, by decide +kernel, ow_Pl_canSee⟩
set_option maxRecDepth 100000 in
theorem od_Pl_isAble : gp_okd m_Pl_isAble := ⟨by decide +kernel, by decide +kernel, ow_Pl_isAble⟩
set_option maxRecDepth 100000 in
theorem od_Pl_rights : gp_okd m_Pl_rights := ⟨by decide +kernel, by decide +kernel, ow_Pl_rights⟩
