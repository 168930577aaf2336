set_option maxRecDepth 100000 in
theorem od_Rf_lay : gp_okd m_Rf_lay := ⟨by decide +kernel, by decide +kernel, ow_Rf_lay⟩
set_option maxRecDepth 100000 in
theorem od_Rf_opens : gp_okd m_Rf_opens := ⟨by decide +kernel, by decide +kernel, ow_Rf_opens⟩
set_option maxRecDepth 100000 in
theorem od_Rf_sumUp : gp_okd m_Rf_sumUp := ⟨by decide +kernel, by decide +kernel, ow_Rf_sumUp⟩
set_option maxRecDepth 100000 in
theorem od_Rf_product : gp_okd m_Rf_product := ⟨by decide +kernel, by decide +kernel, ow_Rf_product⟩
set_option maxRecDepth 100000 in
theorem od_Rf_unit : gp_okd m_Rf_unit := ⟨by decide +kernel, by decide +kernel, ow_Rf_unit⟩
set_option maxRecDepth 100000 in
theorem od_Rf_any : gp_okd m_Rf_any := ⟨by decide +kernel, by decide +kernel, ow_Rf_any⟩
set_option maxRecDepth 100000 in
theorem od_Rf_every : gp_okd m_Rf_every := ⟨by decide +kernel, by decide +kernel, ow_Rf_every⟩
set_option maxRecDepth 100000 in
theorem od_Rf_one : gp_okd m_Rf_one := ⟨by decide +kernel, by decide +kernel, ow_Rf_one⟩
set_option maxRecDepth 100000 in
theorem od_Rf_aPrice : gp_okd m_Rf_aPrice := ⟨by decide +kernel, by decide +kernel, ow_Rf_aPrice⟩
set_option maxRecDepth 100000 in
theorem od_Rf_aLine : gp_okd m_Rf_aLine := ⟨by decide +kernel, by decide +kernel, ow_Rf_aLine⟩
set_option maxRecDepth 100000 in
theorem od_Rf_takesMind : gp_okd m_Rf_takesMind := ⟨by decide +kernel, by decide +kernel, ow_Rf_takesMind⟩
set_option maxRecDepth 100000 in
theorem od_Rf_isMind : gp_okd m_Rf_isMind := ⟨by decide +kernel, by decide +kernel, ow_Rf_isMind⟩
set_option maxRecDepth 100000 in
theorem od_Rf_mind : gp_okd m_Rf_mind := ⟨by decide +kernel, by decide +kernel, ow_Rf_mind⟩
set_option maxRecDepth 100000 in
theorem od_Rf_fault : gp_okd m_Rf_fault := ⟨by decide +kernel, by decide +kernel, ow_Rf_fault⟩
set_option maxRecDepth 100000 in
theorem od_Rf_both : gp_okd m_Rf_both := ⟨by decide +kernel, by decide +kernel, ow_Rf_both⟩
set_option maxRecDepth 100000 in
theorem od_Rf_comesTo : gp_okd m_Rf_comesTo := ⟨by decide +kernel, by decide +kernel, ow_Rf_comesTo⟩
set_option maxRecDepth 100000 in
theorem od_Rf_priceNow : gp_okd m_Rf_priceNow := ⟨by decide +kernel, by decide +kernel, ow_Rf_priceNow⟩
set_option maxRecDepth 100000 in
theorem od_Rf_canSee : gp_okd m_Rf_canSee := ⟨by decide +kernel, by decide +kernel, ow_Rf_canSee⟩
set_option maxRecDepth 100000 in
theorem od_Rf_thing : gp_okd m_Rf_thing := ⟨by decide +kernel, by decide +kernel, ow_Rf_thing⟩
set_option maxRecDepth 100000 in
theorem od_Rf_laysPrices : gp_okd m_Rf_laysPrices := ⟨by decide +kernel, by decide +kernel, ow_Rf_laysPrices⟩
set_option maxRecDepth 100000 in
theorem od_Rf_canTake : gp_okd m_Rf_canTake := ⟨by decide +kernel, by decide +kernel, ow_Rf_canTake⟩
set_option maxRecDepth 100000 in
theorem od_Rf_isTwice : gp_okd m_Rf_isTwice := ⟨by decide +kernel, by decide +kernel, ow_Rf_isTwice⟩
set_option maxRecDepth 100000 in
theorem od_Rf_goesOn : gp_okd m_Rf_goesOn := ⟨by decide +kernel, by decide +kernel, ow_Rf_goesOn⟩
set_option maxRecDepth 100000 in
theorem od_Rf_readings : gp_okd m_Rf_readings := ⟨by decide +kernel, by decide +kernel, ow_Rf_readings⟩
set_option maxRecDepth 100000 in
theorem od_Rf_seeks : gp_okd m_Rf_seeks := ⟨by decide +kernel, by decide +kernel, ow_Rf_seeks⟩
set_option maxRecDepth 100000 in
theorem od_Rf_allNeeds : gp_okd m_Rf_allNeeds := ⟨by decide +kernel, by decide +kernel, ow_Rf_allNeeds⟩
set_option maxRecDepth 100000 in
theorem od_Rf_cheapest : gp_okd m_Rf_cheapest := ⟨by decide +kernel, by decide +kernel, ow_Rf_cheapest⟩
set_option maxRecDepth 100000 in
theorem od_Rf_isAlone : gp_okd m_Rf_isAlone := ⟨by decide +kernel, by decide +kernel, ow_Rf_isAlone⟩
set_option maxRecDepth 100000 in
theorem od_Rf_alone : gp_okd m_Rf_alone := ⟨by decide +kernel, by decide +kernel, ow_Rf_alone⟩
set_option maxRecDepth 100000 in
theorem od_Rf_bits : gp_okd m_Rf_bits := ⟨by decide +kernel, by decide +kernel, ow_Rf_bits⟩
set_option maxRecDepth 100000 in
theorem od_Rf_grid : gp_okd m_Rf_grid := ⟨by decide +kernel, by decide +kernel, ow_Rf_grid⟩
set_option maxRecDepth 100000 in
theorem od_Rf_isWidth : gp_okd m_Rf_isWidth := ⟨by decide +kernel, by decide +kernel, ow_Rf_isWidth⟩
set_option maxRecDepth 100000 in
theorem od_Rf_laidAt : gp_okd m_Rf_laidAt := ⟨by decide +kernel, by decide +kernel, ow_Rf_laidAt⟩
set_option maxRecDepth 100000 in
theorem od_Rf_isPrime : gp_okd m_Rf_isPrime := ⟨by decide +kernel, by decide +kernel, ow_Rf_isPrime⟩
set_option maxRecDepth 100000 in
theorem od_Rf_edges : gp_okd m_Rf_edges := ⟨by decide +kernel, by decide +kernel, ow_Rf_edges⟩
set_option maxRecDepth 100000 in
theorem od_Rf_triedAs : gp_okd m_Rf_triedAs := ⟨by decide +kernel, by decide +kernel, ow_Rf_triedAs⟩
