set_option maxRecDepth 100000 in
theorem od_Pl_thingsOf : gp_okd m_Pl_thingsOf := ⟨by decide +kernel, by decide +kernel, ow_Pl_thingsOf⟩
set_option maxRecDepth 100000 in
theorem od_Se_init : gp_okd m_Se_init := ⟨by decide +kernel, by decide +kernel, ow_Se_init⟩
set_option maxRecDepth 100000 in
theorem od_Se_setUp : gp_okd m_Se_setUp := ⟨by decide +kernel, by decide +kernel, ow_Se_setUp⟩
set_option maxRecDepth 100000 in
theorem od_Se_takingsOf : gp_okd m_Se_takingsOf := ⟨by decide +kernel, by decide +kernel, ow_Se_takingsOf⟩
set_option maxRecDepth 100000 in
theorem od_Se_priceAll : gp_okd m_Se_priceAll := ⟨by decide +kernel, by decide +kernel, ow_Se_priceAll⟩
set_option maxRecDepth 100000 in
theorem od_Se_setFloors : gp_okd m_Se_setFloors := ⟨by decide +kernel, by decide +kernel, ow_Se_setFloors⟩
set_option maxRecDepth 100000 in
theorem od_Se_countUpTo : gp_okd m_Se_countUpTo := ⟨by decide +kernel, by decide +kernel, ow_Se_countUpTo⟩
set_option maxRecDepth 100000 in
theorem od_Se_findCheapest : gp_okd m_Se_findCheapest := ⟨by decide +kernel, by decide +kernel, ow_Se_findCheapest⟩
set_option maxRecDepth 100000 in
theorem od_Se_walk : gp_okd m_Se_walk := ⟨by decide +kernel, by decide +kernel, ow_Se_walk⟩
set_option maxRecDepth 100000 in
theorem od_Se_arrive : gp_okd m_Se_arrive := ⟨by decide +kernel, by decide +kernel, ow_Se_arrive⟩
set_option maxRecDepth 100000 in
theorem od_Se_cheapestTaking : gp_okd m_Se_cheapestTaking := ⟨by decide +kernel, by decide +kernel, ow_Se_cheapestTaking⟩
set_option maxRecDepth 100000 in
theorem od_Se_cheapestPacked : gp_okd m_Se_cheapestPacked := ⟨by decide +kernel, by decide +kernel, ow_Se_cheapestPacked⟩
set_option maxRecDepth 100000 in
theorem od_Se_partingPlace : gp_okd m_Se_partingPlace := ⟨by decide +kernel, by decide +kernel, ow_Se_partingPlace⟩
set_option maxRecDepth 100000 in
theorem od_Se_fallsFrom : gp_okd m_Se_fallsFrom := ⟨by decide +kernel, by decide +kernel, ow_Se_fallsFrom⟩
set_option maxRecDepth 100000 in
theorem od_Sk_init : gp_okd m_Sk_init := ⟨by decide +kernel, by decide +kernel, ow_Sk_init⟩
set_option maxRecDepth 100000 in
theorem od_Sk_add : gp_okd m_Sk_add := ⟨by decide +kernel, by decide +kernel, ow_Sk_add⟩
set_option maxRecDepth 100000 in
theorem od_Sk_has : gp_okd m_Sk_has := ⟨by decide +kernel, by decide +kernel, ow_Sk_has⟩
set_option maxRecDepth 100000 in
theorem od_Sk_countYears : gp_okd m_Sk_countYears := ⟨by decide +kernel, by decide +kernel, ow_Sk_countYears⟩
set_option maxRecDepth 100000 in
theorem od_Sk_anyFound : gp_okd m_Sk_anyFound := ⟨by decide +kernel, by decide +kernel, ow_Sk_anyFound⟩
set_option maxRecDepth 100000 in
theorem od_Sk_fitsAll : gp_okd m_Sk_fitsAll := ⟨by decide +kernel, by decide +kernel, ow_Sk_fitsAll⟩
set_option maxRecDepth 100000 in
theorem od_Sk_fits : gp_okd m_Sk_fits := ⟨by decide +kernel, by decide +kernel, ow_Sk_fits⟩
set_option maxRecDepth 100000 in
theorem od_Sk_countPlaces : gp_okd m_Sk_countPlaces := ⟨by decide +kernel, by decide +kernel, ow_Sk_countPlaces⟩
set_option maxRecDepth 100000 in
theorem od_Sk_isPlace : gp_okd m_Sk_isPlace := ⟨by decide +kernel, by decide +kernel, ow_Sk_isPlace⟩
set_option maxRecDepth 100000 in
theorem od_Sk_isAbout : gp_okd m_Sk_isAbout := ⟨by decide +kernel, by decide +kernel, ow_Sk_isAbout⟩
set_option maxRecDepth 100000 in
theorem od_Su_init : gp_okd m_Su_init := ⟨by decide +kernel, by decide +kernel, ow_Su_init⟩
set_option maxRecDepth 100000 in
theorem od_Su_clear : gp_okd m_Su_clear := ⟨by decide +kernel, by decide +kernel, ow_Su_clear⟩
set_option maxRecDepth 100000 in
theorem od_Su_work : gp_okd m_Su_work := ⟨by decide +kernel, by decide +kernel, ow_Su_work⟩
set_option maxRecDepth 100000 in
theorem od_Su_step : gp_okd m_Su_step := ⟨by decide +kernel, by decide +kernel, ow_Su_step⟩
set_option maxRecDepth 100000 in
theorem od_Su_join : gp_okd m_Su_join := ⟨by decide +kernel, by decide +kernel, ow_Su_join⟩
set_option maxRecDepth 100000 in
theorem od_Tr_init : gp_okd m_Tr_init := ⟨by decide +kernel, by decide +kernel, ow_Tr_init⟩
set_option maxRecDepth 100000 in
theorem od_Tr_add : gp_okd m_Tr_add := ⟨by decide +kernel, by decide +kernel, ow_Tr_add⟩
set_option maxRecDepth 100000 in
theorem od_Tr_rightPlaces : gp_okd m_Tr_rightPlaces := ⟨by decide +kernel, by decide +kernel, ow_Tr_rightPlaces⟩
set_option maxRecDepth 100000 in
theorem od_Wi_init : gp_okd m_Wi_init := ⟨by decide +kernel, by decide +kernel, ow_Wi_init⟩
set_option maxRecDepth 100000 in
theorem od_Wi_order : gp_okd m_Wi_order := ⟨by decide +kernel, by decide +kernel, ow_Wi_order⟩
set_option maxRecDepth 100000 in
theorem od_Wi_rankOf : gp_okd m_Wi_rankOf := ⟨by decide +kernel, by decide +kernel, ow_Wi_rankOf⟩
set_option maxRecDepth 100000 in
theorem od_Wi_isPrime : gp_okd m_Wi_isPrime := ⟨by decide +kernel, by decide +kernel, ow_Wi_isPrime⟩
set_option maxRecDepth 100000 in
theorem od_Wi_insert : gp_okd m_Wi_insert := ⟨by decide +kernel, by decide +kernel, ow_Wi_insert⟩
set_option maxRecDepth 100000 in
theorem od_Gp_init : gp_okd m_Gp_init := ⟨by decide +kernel, by decide +kernel, ow_Gp_init⟩
set_option maxRecDepth 100000 in
theorem od_Gp_mark : gp_okd m_Gp_mark := ⟨by decide +kernel, by decide +kernel, ow_Gp_mark⟩
set_option maxRecDepth 100000 in
theorem od_Gp_tell : gp_okd m_Gp_tell := ⟨by decide +kernel, by decide +kernel, ow_Gp_tell⟩
set_option maxRecDepth 100000 in
theorem od_Gp_tellNeeds : gp_okd m_Gp_tellNeeds := ⟨by decide +kernel, by decide +kernel, ow_Gp_tellNeeds⟩
set_option maxRecDepth 100000 in
theorem od_Gp_tellKnows : gp_okd m_Gp_tellKnows := ⟨by decide +kernel, by decide +kernel, ow_Gp_tellKnows⟩
set_option maxRecDepth 100000 in
theorem od_Gp_tellFirst : gp_okd m_Gp_tellFirst := ⟨by decide +kernel, by decide +kernel, ow_Gp_tellFirst⟩
set_option maxRecDepth 100000 in
theorem od_Gp_tellSecond : gp_okd m_Gp_tellSecond := ⟨by decide +kernel, by decide +kernel, ow_Gp_tellSecond⟩
set_option maxRecDepth 100000 in
theorem od_Gp_canBeOther : gp_okd m_Gp_canBeOther := ⟨by decide +kernel, by decide +kernel, ow_Gp_canBeOther⟩
set_option maxRecDepth 100000 in
theorem od_Gp_hard : gp_okd m_Gp_hard := ⟨by decide +kernel, by decide +kernel, ow_Gp_hard⟩
set_option maxRecDepth 100000 in
theorem od_Gp_year : gp_okd m_Gp_year := ⟨by decide +kernel, by decide +kernel, ow_Gp_year⟩
set_option maxRecDepth 100000 in
theorem od_Gp_of : gp_okd m_Gp_of := ⟨by decide +kernel, by decide +kernel, ow_Gp_of⟩
set_option maxRecDepth 100000 in
theorem od_Gp_put : gp_okd m_Gp_put := ⟨by decide +kernel, by decide +kernel, ow_Gp_put⟩
set_option maxRecDepth 100000 in
theorem od_Gp_inMessage : gp_okd m_Gp_inMessage := ⟨by decide +kernel, by decide +kernel, ow_Gp_inMessage⟩
set_option maxRecDepth 100000 in
theorem od_Gp_feed : gp_okd m_Gp_feed := ⟨by decide +kernel, by decide +kernel, ow_Gp_feed⟩
set_option maxRecDepth 100000 in
theorem od_Gp_end : gp_okd m_Gp_end := ⟨by decide +kernel, by decide +kernel, ow_Gp_end⟩
set_option maxRecDepth 100000 in
theorem od_Gp_mind : gp_okd m_Gp_mind := ⟨by decide +kernel, by decide +kernel, ow_Gp_mind⟩
set_option maxRecDepth 100000 in
theorem od_Gp_fault : gp_okd m_Gp_fault := ⟨by decide +kernel, by decide +kernel, ow_Gp_fault⟩
