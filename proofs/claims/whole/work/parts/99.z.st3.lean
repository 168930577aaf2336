section
variable {l : Launch} {G : gp_G} {d : Nat} {w : Nat → Nat → Int32} {u : Int64 × (Nat → Int64)} {q : Nat → Nat} {K : Option Value → gp_H → Prop}
/-! ===== one call of both: the sky ===== -/
theorem gs_130 {W : Nat → Nat → Int32} (h : gs_R w W) {b : Nat} (h1 : 130 ≤ b) (h2 : b ≤ 136) : W b = w b := by
  refine h.1 b ?_ (by omega) (by omega)
  rcases (show b = 130 ∨ b = 131 ∨ b = 132 ∨ b = 133 ∨ b = 134 ∨ b = 135 ∨ b = 136 by omega) with rfl | rfl | rfl | rfl | rfl | rfl | rfl <;> rfl
set_option maxRecDepth 100000 in
theorem st_years {x : Int32} (I : gI w u q) : gSt l G d m_Gp_years m_Rf_years [.int x] w u q := by
  obtain ⟨n, k, ms, tp, nt, D, N, Ng, nb, T, tl, tm, Jm, Jg, Jx, Jq, Jb, Js, Jt⟩ := id I
  refine sp_Gp_years (d := d + 57) Js (fun _ => Classical.propDecidable _) (fun h0 => ⟨_, rfl, ?_⟩) (fun c ex s es W hW => ⟨_, rfl, ?_⟩) (fun c nx W hW => ⟨_, rfl, ?_⟩)
  · exact sp_Rf_years (d := d + 59) Js.2.1 Js.2.2.1 (fun _ => Classical.propDecidable _) (fun _ => gI_end rfl I) (fun c => absurd c h0) (fun c => absurd c h0)
  · have JsW := gJ_s_R hW Js
    have e134 : W 134 = w 134 := gs_130 hW (by decide) (by decide)
    have eth : ∀ y b, gf_thC W y b ↔ gf_thC w y b := fun y b => by
      show (W 134 b = -1 ∨ (¬ lg_cmp ((W 130 b).toInt64 + (W 130 b).toInt64 * (W 131 b).toInt64 * y.toInt64 / 1000000) (W 134 b).toInt64 < 0 ∧ lg_cmp ((W 130 b).toInt64 + (W 130 b).toInt64 * (W 131 b).toInt64 * y.toInt64 / 1000000) (W 135 b).toInt64 ≤ 0)) ↔ _
      rw [e134, gs_130 hW (b := 130) (by decide) (by decide), gs_130 hW (b := 131) (by decide) (by decide), gs_130 hW (b := 135) (by decide) (by decide)]
    have eC : (fun y : Nat => ∀ b, b < nb → gf_thC W (nI y) b) = fun y : Nat => ∀ b, b < nb → gf_thC w (nI y) b := by
      funext y
      exact propext ⟨fun h b hb => (eth _ b).mp (h b hb), fun h b hb => (eth _ b).mpr (h b hb)⟩
    refine sp_Rf_years (d := d + 59) JsW.2.1 JsW.2.2.1 (fun y => Classical.propDecidable ((fun y : Nat => ∀ b, b < nb → gf_thC W (nI y) b) y)) (fun z => absurd c z) (fun _ _ s' es' => gI_end ?_ (gI_R hW I)) (fun _ nx => absurd (by rw [e134]; exact ex) nx)
    have e : s' = s := by
      rw [es', es]
      show gp_it (gf_yrS (fun y : Nat => ∀ b, b < nb → gf_thC W (nI y) b) (fun y => Classical.propDecidable ((fun y : Nat => ∀ b, b < nb → gf_thC W (nI y) b) y))) 0 1000 (0, -1, -1) = gp_it (gf_yrS (fun y : Nat => ∀ b, b < nb → gf_thC w (nI y) b) (fun y => Classical.propDecidable ((fun y : Nat => ∀ b, b < nb → gf_thC w (nI y) b) y))) 0 1000 (0, -1, -1)
      rw [eC]
    rw [e]
  · have JsW := gJ_s_R hW Js
    have e134 : W 134 = w 134 := gs_130 hW (by decide) (by decide)
    exact sp_Rf_years (d := d + 59) JsW.2.1 JsW.2.2.1 (fun _ => Classical.propDecidable _) (fun z => absurd c z) (fun _ ex => absurd (by rw [e134] at ex; exact ex) nx) (fun _ _ => gI_end rfl (gI_R hW I))
theorem gJ_sb {n : Nat} (Js : gJ_s w n) {b : Int32} : (0 ≤ b ∧ b < w 83 7) ↔ (0 ≤ b ∧ b ≤ w 95 57 - 1) := by
  rw [Js.1, Js.2.1]
  have h16 := Js.2.2.1
  constructor
  · rintro ⟨h1, h2⟩
    obtain ⟨i, hi, e⟩ := nI_of (Int32.not_lt.mpr h1)
    subst e
    have := (nI_ltI hi (by omega)).mp h2
    refine ⟨h1, ?_⟩
    rw [show nI n - 1 = nI (n - 1) from pk_sub (b := 1) (by omega)]
    exact nI_le (by omega) (by omega)
  · rintro ⟨h1, h2⟩
    obtain ⟨i, hi, e⟩ := nI_of (Int32.not_lt.mpr h1)
    subst e
    refine ⟨h1, ?_⟩
    by_cases z : n = 0
    · subst z
      exact absurd (Int32.le_trans h1 h2) (by decide)
    · rw [show nI n - 1 = nI (n - 1) from pk_sub (b := 1) (by omega)] at h2
      have := (nI_leI hi (by omega)).mp h2
      exact nI_lt (by omega) (by omega)
theorem gJ_b14 {n : Nat} (Js : gJ_s w n) {b : Int32} (h : 0 ≤ b ∧ b < w 83 7) : vp_in b 14 := by
  obtain ⟨h1, h2⟩ := h
  obtain ⟨i, hi, e⟩ := nI_of (Int32.not_lt.mpr h1)
  subst e
  rw [Js.1] at h2
  have h16 := Js.2.2.1
  have := (nI_ltI hi (by omega)).mp h2
  exact vp_in_nI (by omega) (by decide)
set_option maxRecDepth 100000 in
theorem st_far {x y : Int32} (I : gI w u q) : gSt l G d m_Gp_far m_Rf_far [.int x, .int y] w u q := by
  obtain ⟨n, k, ms, tp, nt, D, N, Ng, nb, T, tl, tm, Jm, Jg, Jx, Jq, Jb, Js, Jt⟩ := id I
  refine sp_Gp_far (d := d + 59) (gJ_b14 Js) (fun c1 c2 => ⟨_, rfl, ?_⟩) (fun c => ⟨_, rfl, ?_⟩)
  · refine sp_Rf_far (d := d + 58) (fun z => gJ_b14 Js ((gJ_sb Js).mpr z)) (fun _ _ => gI_end rfl ?_) (fun z => absurd ⟨(gJ_sb Js).mp c1, c2⟩ z)
    obtain ⟨v, hv, ev⟩ := gJ_r (N := 55) (by decide) c2
    have e : gE 6 w (gw (gw w 90 x.toNatClampNeg y) 136 x.toNatClampNeg y) := gE_w (gE_w (gE_r 6 w) (by decide) (by decide)) (by decide) (by decide)
    have h3 : ∀ j, gw (gw w 90 x.toNatClampNeg y) 136 x.toNatClampNeg y 90 j = if j = x.toNatClampNeg then y else w 90 j := fun j => by rw [gw_ne (by decide), gw_at]
    have h4 : ∀ j, gw (gw w 90 x.toNatClampNeg y) 136 x.toNatClampNeg y 136 j = if j = x.toNatClampNeg then y else w 136 j := fun j => by rw [gw_at, gw_ne (by decide)]
    obtain ⟨s1, s2, s3, s4, s5, s6⟩ := Js
    refine ⟨n, k, ms, tp, nt, D, N, Ng, nb, T, tl, tm, gE_m e (by decide) Jm, gE_g e (by decide) Jg, gE_x e (by decide) Jx, gE_q e (by decide) Jq, gE_bi e (by decide) Jb, ⟨s1, s2, s3, fun i hi => ?_, s5, fun i hi => ?_⟩, gE_tr e (by decide) Jt⟩
    · obtain ⟨b1, b2, b3, b4, b5, b6, b7⟩ := s4 i hi
      refine ⟨b1, b2, b3, b4, b5, b6, ?_⟩
      rw [h3, h4, b7]
    · rw [h4]
      by_cases z : i = x.toNatClampNeg
      · rw [if_pos z]
        exact ⟨v, hv, ev⟩
      · rw [if_neg z]
        exact s6 i hi
  · exact sp_Rf_far (d := d + 58) (fun z => gJ_b14 Js ((gJ_sb Js).mpr z)) (fun z1 z2 => absurd ⟨(gJ_sb Js).mpr z1, z2⟩ c) (fun _ => gI_end rfl I)
set_option maxRecDepth 100000 in
theorem st_found {x y z : Int32} (I : gI w u q) : gSt l G d m_Gp_found m_Rf_found [.int x, .int y, .int z] w u q := by
  obtain ⟨n, k, ms, tp, nt, D, N, Ng, nb, T, tl, tm, Jm, Jg, Jx, Jq, Jb, Js, Jt⟩ := id I
  refine sp_Gp_found (d := d + 59) (gJ_b14 Js) (fun c1 c2 => ⟨_, rfl, ?_⟩) (fun c => ⟨_, rfl, ?_⟩)
  · refine sp_Rf_found (d := d + 58) (fun z => gJ_b14 Js ((gJ_sb Js).mpr z)) (fun _ _ => gI_end rfl ?_) (fun z => absurd ⟨(gJ_sb Js).mp c1, c2⟩ z)
    generalize x.toNatClampNeg = xi
    have e : gE 6 w (gw (gw (gw (gw w 88 xi y) 89 xi z) 134 xi y) 135 xi z) := gE_w (gE_w (gE_w (gE_w (gE_r 6 w) (by decide) (by decide)) (by decide) (by decide)) (by decide) (by decide)) (by decide) (by decide)
    have h1 : ∀ j, gw (gw (gw (gw w 88 xi y) 89 xi z) 134 xi y) 135 xi z 88 j = if j = xi then y else w 88 j := fun j => by rw [gw_ne (by decide), gw_ne (by decide), gw_ne (by decide), gw_at]
    have h2 : ∀ j, gw (gw (gw (gw w 88 xi y) 89 xi z) 134 xi y) 135 xi z 89 j = if j = xi then z else w 89 j := fun j => by rw [gw_ne (by decide), gw_ne (by decide), gw_at, gw_ne (by decide)]
    have h3 : ∀ j, gw (gw (gw (gw w 88 xi y) 89 xi z) 134 xi y) 135 xi z 134 j = if j = xi then y else w 134 j := fun j => by rw [gw_ne (by decide), gw_at, gw_ne (by decide), gw_ne (by decide)]
    have h4 : ∀ j, gw (gw (gw (gw w 88 xi y) 89 xi z) 134 xi y) 135 xi z 135 j = if j = xi then z else w 135 j := fun j => by rw [gw_at, gw_ne (by decide), gw_ne (by decide), gw_ne (by decide)]
    obtain ⟨s1, s2, s3, s4, s5, s6⟩ := Js
    refine ⟨n, k, ms, tp, nt, D, N, Ng, nb, T, tl, tm, gE_m e (by decide) Jm, gE_g e (by decide) Jg, gE_x e (by decide) Jx, gE_q e (by decide) Jq, gE_bi e (by decide) Jb, ⟨s1, s2, s3, fun i hi => ?_, s5, s6⟩, gE_tr e (by decide) Jt⟩
    obtain ⟨b1, b2, b3, b4, b5, b6, b7⟩ := s4 i hi
    refine ⟨b1, b2, b3, b4, ?_, ?_, b7⟩
    · rw [h1, h3, b5]
    · rw [h2, h4, b6]
  · exact sp_Rf_found (d := d + 58) (fun z => gJ_b14 Js ((gJ_sb Js).mpr z)) (fun z1 z2 => absurd ⟨(gJ_sb Js).mpr z1, z2⟩ c) (fun _ => gI_end rfl I)
set_option maxRecDepth 100000 in
theorem st_places {x y : Int32} (I : gI w u q) : gSt l G d m_Gp_places m_Rf_places [.int x, .int y] w u q := by
  obtain ⟨n, k, ms, tp, nt, D, N, Ng, nb, T, tl, tm, Jm, Jg, Jx, Jq, Jb, Js, Jt⟩ := id I
  refine sp_Gp_places (d := d + 56) Js (fun _ => Classical.propDecidable _) (fun h0 => ⟨_, rfl, ?_⟩) (fun c s es W hW => ⟨_, rfl, ?_⟩)
  · exact sp_Rf_places (d := d + 59) Js.2.1 Js.2.2.1 (fun c hc b hb => gJ_sq Js hc hb) (fun _ => Classical.propDecidable _) (fun _ => gI_end rfl I) (fun c => absurd c h0)
  · have JsW := gJ_s_R hW Js
    have eth : ∀ c b, gf_plC W x c b ↔ gf_plC w x c b := fun c b => by
      show (W 136 b = 0 ∨ ∃ r D : Nat, (nI (c % 40) - W 132 b) * (nI (c % 40) - W 132 b) + (nI (c / 40) - W 133 b) * (nI (c / 40) - W 133 b) = nI D ∧ D < 10000 ∧ r * r ≤ D ∧ D < (r + 1) * (r + 1) ∧ -x ≤ nI r - W 136 b ∧ nI r - W 136 b ≤ x) ↔ _
      rw [gs_130 hW (b := 132) (by decide) (by decide), gs_130 hW (b := 133) (by decide) (by decide), gs_130 hW (b := 136) (by decide) (by decide)]
    have eC : (fun c : Nat => ∀ b, b < nb → gf_plC W x c b) = fun c : Nat => ∀ b, b < nb → gf_plC w x c b := by
      funext c
      exact propext ⟨fun h b hb => (eth c b).mp (h b hb), fun h b hb => (eth c b).mpr (h b hb)⟩
    refine sp_Rf_places (d := d + 59) JsW.2.1 JsW.2.2.1 (fun c hc b hb => gJ_sq JsW hc hb) (fun c => Classical.propDecidable ((fun c : Nat => ∀ b, b < nb → gf_plC W x c b) c)) (fun z => absurd c z) (fun _ s' es' => gI_end ?_ (gI_R hW I))
    have e : s' = s := by
      rw [es', es]
      show gp_it (gf_plS (fun c : Nat => ∀ b, b < nb → gf_plC W x c b) (fun c => Classical.propDecidable ((fun c : Nat => ∀ b, b < nb → gf_plC W x c b) c))) 0 1600 (0, -1) = gp_it (gf_plS (fun c : Nat => ∀ b, b < nb → gf_plC w x c b) (fun c => Classical.propDecidable ((fun c : Nat => ∀ b, b < nb → gf_plC w x c b) c))) 0 1600 (0, -1)
      rw [eC]
    rw [e]

end
