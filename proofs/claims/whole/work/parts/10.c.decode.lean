set_option maxRecDepth 100000 in
theorem od_Gp_readings : gp_okd m_Gp_readings := ⟨by decide +kernel, by decide +kernel, ow_Gp_readings⟩
set_option maxRecDepth 100000 in
theorem od_Gp_cheapest : gp_okd m_Gp_cheapest := ⟨by decide +kernel, by decide +kernel, ow_Gp_cheapest⟩
set_option maxRecDepth 100000 in
theorem od_Gp_findCheapest : gp_okd m_Gp_findCheapest := ⟨by decide +kernel, by decide +kernel, ow_Gp_findCheapest⟩
set_option maxRecDepth 100000 in
theorem od_Gp_alone : gp_okd m_Gp_alone := ⟨by decide +kernel, by decide +kernel, ow_Gp_alone⟩
set_option maxRecDepth 100000 in
theorem od_Gp_bits : gp_okd m_Gp_bits := ⟨by decide +kernel, by decide +kernel, ow_Gp_bits⟩
set_option maxRecDepth 100000 in
theorem od_Gp_grid : gp_okd m_Gp_grid := ⟨by decide +kernel, by decide +kernel, ow_Gp_grid⟩
set_option maxRecDepth 100000 in
theorem od_Gp_widths : gp_okd m_Gp_widths := ⟨by decide +kernel, by decide +kernel, ow_Gp_widths⟩
set_option maxRecDepth 100000 in
theorem od_Gp_laid : gp_okd m_Gp_laid := ⟨by decide +kernel, by decide +kernel, ow_Gp_laid⟩
set_option maxRecDepth 100000 in
theorem od_Gp_beat : gp_okd m_Gp_beat := ⟨by decide +kernel, by decide +kernel, ow_Gp_beat⟩
set_option maxRecDepth 100000 in
theorem od_Gp_found : gp_okd m_Gp_found := ⟨by decide +kernel, by decide +kernel, ow_Gp_found⟩
set_option maxRecDepth 100000 in
theorem od_Gp_far : gp_okd m_Gp_far := ⟨by decide +kernel, by decide +kernel, ow_Gp_far⟩
set_option maxRecDepth 100000 in
theorem od_Gp_years : gp_okd m_Gp_years := ⟨by decide +kernel, by decide +kernel, ow_Gp_years⟩
set_option maxRecDepth 100000 in
theorem od_Gp_places : gp_okd m_Gp_places := ⟨by decide +kernel, by decide +kernel, ow_Gp_places⟩
set_option maxRecDepth 100000 in
theorem od_Gp_told : gp_okd m_Gp_told := ⟨by decide +kernel, by decide +kernel, ow_Gp_told⟩
set_option maxRecDepth 100000 in
theorem od_Gp_best : gp_okd m_Gp_best := ⟨by decide +kernel, by decide +kernel, ow_Gp_best⟩
set_option maxRecDepth 100000 in
theorem od_Gp_never : gp_okd m_Gp_never := ⟨by decide +kernel, by decide +kernel, ow_Gp_never⟩
set_option maxRecDepth 100000 in
theorem od_Gp_deeper : gp_okd m_Gp_deeper := ⟨by decide +kernel, by decide +kernel, ow_Gp_deeper⟩
set_option maxRecDepth 100000 in
theorem od_Gp_countTold : gp_okd m_Gp_countTold := ⟨by decide +kernel, by decide +kernel, ow_Gp_countTold⟩
set_option maxRecDepth 100000 in
theorem od_Gp_trial : gp_okd m_Gp_trial := ⟨by decide +kernel, by decide +kernel, ow_Gp_trial⟩
set_option maxRecDepth 100000 in
theorem od_Gp_othersAreThere : gp_okd m_Gp_othersAreThere := ⟨by decide +kernel, by decide +kernel, ow_Gp_othersAreThere⟩
set_option maxRecDepth 100000 in
theorem od_Gp_agrees : gp_okd m_Gp_agrees := ⟨by decide +kernel, by decide +kernel, ow_Gp_agrees⟩
set_option maxRecDepth 100000 in
theorem od_Gp_ours : gp_okd m_Gp_ours := ⟨by decide +kernel, by decide +kernel, ow_Gp_ours⟩
set_option maxRecDepth 100000 in
theorem od_Gp_marksAtPlaces : gp_okd m_Gp_marksAtPlaces := ⟨by decide +kernel, by decide +kernel, ow_Gp_marksAtPlaces⟩
set_option maxRecDepth 100000 in
theorem od_Gp_look : gp_okd m_Gp_look := ⟨by decide +kernel, by decide +kernel, ow_Gp_look⟩
set_option maxRecDepth 100000 in
theorem od_Gp_within : gp_okd m_Gp_within := ⟨by decide +kernel, by decide +kernel, ow_Gp_within⟩
set_option maxRecDepth 100000 in
theorem od_Gp_isMind : gp_okd m_Gp_isMind := ⟨by decide +kernel, by decide +kernel, ow_Gp_isMind⟩
set_option maxRecDepth 100000 in
theorem od_Gp_markAt : gp_okd m_Gp_markAt := ⟨by decide +kernel, by decide +kernel, ow_Gp_markAt⟩
set_option maxRecDepth 100000 in
theorem od_Gp_takingAt : gp_okd m_Gp_takingAt := ⟨by decide +kernel, by decide +kernel, ow_Gp_takingAt⟩
set_option maxRecDepth 100000 in
theorem od_Gp_placesTakenRight : gp_okd m_Gp_placesTakenRight := ⟨by decide +kernel, by decide +kernel, ow_Gp_placesTakenRight⟩
set_option maxRecDepth 100000 in
theorem od_Rf_init : gp_okd m_Rf_init := ⟨by decide +kernel, by decide +kernel, ow_Rf_init⟩
set_option maxRecDepth 100000 in
theorem od_Rf_isIn : gp_okd m_Rf_isIn := ⟨by decide +kernel, by decide +kernel, ow_Rf_isIn⟩
set_option maxRecDepth 100000 in
theorem od_Rf_count : gp_okd m_Rf_count := ⟨by decide +kernel, by decide +kernel, ow_Rf_count⟩
set_option maxRecDepth 100000 in
theorem od_Rf_isMark : gp_okd m_Rf_isMark := ⟨by decide +kernel, by decide +kernel, ow_Rf_isMark⟩
set_option maxRecDepth 100000 in
theorem od_Rf_mark : gp_okd m_Rf_mark := ⟨by decide +kernel, by decide +kernel, ow_Rf_mark⟩
set_option maxRecDepth 100000 in
theorem od_Rf_tell : gp_okd m_Rf_tell := ⟨by decide +kernel, by decide +kernel, ow_Rf_tell⟩
set_option maxRecDepth 100000 in
theorem od_Rf_hard : gp_okd m_Rf_hard := ⟨by decide +kernel, by decide +kernel, ow_Rf_hard⟩
set_option maxRecDepth 100000 in
theorem od_Rf_year : gp_okd m_Rf_year := ⟨by decide +kernel, by decide +kernel, ow_Rf_year⟩
set_option maxRecDepth 100000 in
theorem od_Rf_depth : gp_okd m_Rf_depth := ⟨by decide +kernel, by decide +kernel, ow_Rf_depth⟩
set_option maxRecDepth 100000 in
theorem od_Rf_left : gp_okd m_Rf_left := ⟨by decide +kernel, by decide +kernel, ow_Rf_left⟩
set_option maxRecDepth 100000 in
theorem od_Rf_isWorn : gp_okd m_Rf_isWorn := ⟨by decide +kernel, by decide +kernel, ow_Rf_isWorn⟩
set_option maxRecDepth 100000 in
theorem od_Rf_chain : gp_okd m_Rf_chain := ⟨by decide +kernel, by decide +kernel, ow_Rf_chain⟩
set_option maxRecDepth 100000 in
theorem od_Rf_of : gp_okd m_Rf_of := ⟨by decide +kernel, by decide +kernel, ow_Rf_of⟩
set_option maxRecDepth 100000 in
theorem od_Rf_put : gp_okd m_Rf_put := ⟨by decide +kernel, by decide +kernel, ow_Rf_put⟩
set_option maxRecDepth 100000 in
theorem od_Rf_feed : gp_okd m_Rf_feed := ⟨by decide +kernel, by decide +kernel, ow_Rf_feed⟩
set_option maxRecDepth 100000 in
theorem od_Rf_end : gp_okd m_Rf_end := ⟨by decide +kernel, by decide +kernel, ow_Rf_end⟩
set_option maxRecDepth 100000 in
theorem od_Rf_see : gp_okd m_Rf_see := ⟨by decide +kernel, by decide +kernel, ow_Rf_see⟩
set_option maxRecDepth 100000 in
theorem od_Rf_isLetter : gp_okd m_Rf_isLetter := ⟨by decide +kernel, by decide +kernel, ow_Rf_isLetter⟩
set_option maxRecDepth 100000 in
theorem od_Rf_isDigit : gp_okd m_Rf_isDigit := ⟨by decide +kernel, by decide +kernel, ow_Rf_isDigit⟩
set_option maxRecDepth 100000 in
theorem od_Rf_is : gp_okd m_Rf_is := ⟨by decide +kernel, by decide +kernel, ow_Rf_is⟩
set_option maxRecDepth 100000 in
theorem od_Rf_name : gp_okd m_Rf_name := ⟨by decide +kernel, by decide +kernel, ow_Rf_name⟩
set_option maxRecDepth 100000 in
theorem od_Rf_word : gp_okd m_Rf_word := ⟨by decide +kernel, by decide +kernel, ow_Rf_word⟩
set_option maxRecDepth 100000 in
theorem od_Rf_next0 : gp_okd m_Rf_next0 := ⟨by decide +kernel, by decide +kernel, ow_Rf_next0⟩
set_option maxRecDepth 100000 in
theorem od_Rf_bad : gp_okd m_Rf_bad := ⟨by decide +kernel, by decide +kernel, ow_Rf_bad⟩
set_option maxRecDepth 100000 in
theorem od_Rf_need : gp_okd m_Rf_need := ⟨by decide +kernel, by decide +kernel, ow_Rf_need⟩
set_option maxRecDepth 100000 in
theorem od_Rf_number : gp_okd m_Rf_number := ⟨by decide +kernel, by decide +kernel, ow_Rf_number⟩
