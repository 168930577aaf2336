section
variable {l : Launch} {G : gp_G} {d : Nat} {w : Nat → Nat → Int32} {u : Int64 × (Nat → Int64)} {q : Nat → Nat} {K : Option Value → gp_H → Prop}
/-! ===== one call of both: years, hardness, the tape's end, beats ===== -/
theorem gJ_r {x : Int32} {N : Nat} (hN : N < 2 ^ 31) (h : 0 ≤ x ∧ x ≤ nI N) : ∃ y : Nat, y ≤ N ∧ x = nI y := by
  obtain ⟨y, hy, e⟩ := nI_of (Int32.not_lt.mpr h.1)
  refine ⟨y, ?_, e⟩
  have h2 := h.2
  rw [e] at h2
  exact (nI_leI hy hN).mp h2
theorem gJ_m_y {W : Nat → Nat → Int32} {n y : Nat} (J : gJ_m w n) (hy : y ≤ 999) (h : ∀ b, gJ_mc b = true → b ≠ 1 → W b = w b) (e3 : W 1 3 = w 1 3) (e4 : W 1 4 = nI y) (f0 : W 95 0 = w 95 0) (f1 : W 95 1 = nI y) (f13 : W 95 13 = w 95 13) : gJ_m W n := by
  have e : ∀ i, i < 16 → W (5 + i) = w (5 + i) := fun i hi => h _ (by simp [gJ_mc]; omega) (by omega)
  obtain ⟨a1, a2, a3, a4, a5, a6, a7, a8, a9, a10, a11⟩ := J
  have x3 := h 3 rfl (by decide)
  have e96 := h 96 rfl (by decide)
  have e97 := h 97 rfl (by decide)
  have e98 := h 98 rfl (by decide)
  have e99 := h 99 rfl (by decide)
  have e100 := h 100 rfl (by decide)
  have e101 := h 101 rfl (by decide)
  have e102 := h 102 rfl (by decide)
  have e103 := h 103 rfl (by decide)
  have e104 := h 104 rfl (by decide)
  refine ⟨by rw [e3]; exact a1, by rw [f0]; exact a2, a3, by rw [e4, f1], ⟨y, hy, f1⟩, by rw [f13]; exact a6, ?_, ?_, ?_, ?_, ?_⟩
  · rw [x3, e104]; exact a7
  · intro i hi
    rw [e i hi, e96, e97, e98, e99, e100, e101, e102]
    exact a8 i hi
  · rw [e96, e97, e98, e99, e101]; exact a9
  · intro i hi
    rw [e i (by omega), e103, e98]
    exact a10 i hi
  · intro i hn hi
    rw [e i hi]
    exact a11 i hn hi
set_option maxRecDepth 100000 in
theorem st_year {x : Int32} (I : gI w u q) : gSt l G d m_Gp_year m_Rf_year [.int x] w u q := by
  obtain ⟨n, k, ms, tp, nt, D, N, Ng, nb, T, tl, tm, Jm, Jg, Jx, Jq, Jb, Js, Jt⟩ := id I
  refine sp_Gp_year (d := d + 59) (fun c => ⟨_, rfl, ?_⟩) (fun c => ⟨_, rfl, ?_⟩)
  · refine sp_Rf_year (d := d + 59) (fun _ => gI_end rfl ?_) (fun z => absurd c z)
    obtain ⟨y, hy, ey⟩ := gJ_r (N := 999) (by decide) c
    have e : gE 1 w (gw (gw w 1 4 x) 95 1 x) := gE_95 (gE_w (gE_r 1 w) (by decide) (by decide)) (by decide)
    refine ⟨n, k, ms, tp, nt, D, N, Ng, nb, T, tl, tm, gJ_m_y Jm hy (fun b hb h1 => ?_) rfl ey rfl ey rfl, gE_g e (by decide) Jg, gE_x e (by decide) Jx, gE_q e (by decide) Jq, gE_bi e (by decide) Jb, gE_s e (by decide) Js, gE_tr e (by decide) Jt⟩
    rw [gw_ne (gs_mc hb).2.2, gw_ne h1]
  · exact sp_Rf_year (d := d + 59) (fun z => absurd z c) (fun _ => gI_end rfl I)
set_option maxRecDepth 100000 in
theorem st_hard {x y : Int32} (I : gI w u q) : gSt l G d m_Gp_hard m_Rf_hard [.int x, .int y] w u q := by
  obtain ⟨n, k, ms, tp, nt, D, N, Ng, nb, T, tl, tm, Jm, Jg, Jx, Jq, Jb, Js, Jt⟩ := id I
  refine sp_Gp_hard (d := d + 59) (fun c1 c2 => ⟨_, rfl, ?_⟩) (fun c => ⟨_, rfl, ?_⟩)
  · refine sp_Rf_hard (d := d + 59) (fun _ _ => gI_end rfl ?_) (fun z => absurd ⟨c1, c2⟩ z)
    obtain ⟨v, hv, ev⟩ := gJ_r (N := 99) (by decide) c2
    have e : gE 1 w (gw (gw w 3 x.toNatClampNeg y) 104 x.toNatClampNeg y) := gE_w (gE_w (gE_r 1 w) (by decide) (by decide)) (by decide) (by decide)
    refine ⟨n, k, ms, tp, nt, D, N, Ng, nb, T, tl, tm, ?_, gE_g e (by decide) Jg, gE_x e (by decide) Jx, gE_q e (by decide) Jq, gE_bi e (by decide) Jb, gE_s e (by decide) Js, gE_tr e (by decide) Jt⟩
    obtain ⟨a1, a2, a3, a4, a5, a6, a7, a8, a9, a10, a11⟩ := Jm
    have e5 : ∀ i, i < 16 → gw (gw w 3 x.toNatClampNeg y) 104 x.toNatClampNeg y (5 + i) = w (5 + i) := fun i hi => by rw [gw_ne (by omega), gw_ne (by omega)]
    refine ⟨a1, a2, a3, a4, a5, a6, fun j hj => ?_, fun i hi => ?_, a9, fun i hi => ?_, fun i hn hi => ?_⟩
    · have h3 : gw (gw w 3 x.toNatClampNeg y) 104 x.toNatClampNeg y 3 j = if j = x.toNatClampNeg then y else w 3 j := by rw [gw_ne (by decide), gw_at]
      have h4 : gw (gw w 3 x.toNatClampNeg y) 104 x.toNatClampNeg y 104 j = if j = x.toNatClampNeg then y else w 104 j := by rw [gw_at, gw_ne (by decide)]
      rw [h3, h4]
      by_cases z : j = x.toNatClampNeg
      · rw [if_pos z, if_pos z]
        exact ⟨rfl, v, hv, ev⟩
      · rw [if_neg z, if_neg z]
        exact a7 j hj
    · rw [e5 i hi]
      exact a8 i hi
    · rw [e5 i (by omega)]
      exact a10 i hi
    · rw [e5 i hi]
      exact a11 i hn hi
  · exact sp_Rf_hard (d := d + 59) (fun z1 z2 => absurd ⟨z1, z2⟩ c) (fun _ => gI_end rfl I)
set_option maxRecDepth 100000 in
theorem st_end {x : Int32} (I : gI w u q) : gSt l G d m_Gp_end m_Rf_end [.int x] w u q := by
  obtain ⟨n, k, ms, tp, nt, D, N, Ng, nb, T, tl, tm, Jm, Jg, Jx, Jq, Jb, Js, Jt⟩ := id I
  have ee : w 55 4 = w 95 33 := Jx.1.1.trans Jx.2.1.1.symm
  have hnt := Jx.1.2.1
  refine sp_Gp_end (d := d + 59) (fun c => ⟨_, rfl, ?_⟩) (fun c => ⟨_, rfl, ?_⟩)
  · refine sp_Rf_end (d := d + 59) (fun _ => gI_end rfl ?_) (fun z => absurd (show 0 ≤ x ∧ x ≤ w 95 33 by rw [← ee]; exact c) z)
    rw [Jx.1.1] at c
    obtain ⟨v, hv, ev⟩ := gJ_r (by omega) c
    have e : gE 3 w (gw (gw w 55 4 x) 95 33 x) := gE_95 (gE_w (gE_r 3 w) (by decide) (by decide)) (by decide)
    exact ⟨n, k, ms, tp, v, D, N, Ng, nb, T, tl, tm, gE_m e (by decide) Jm, gE_g e (by decide) Jg, ⟨⟨ev, by omega, fun i hi => Jx.1.2.2 i (by omega)⟩, ⟨ev, by omega, fun i hi => Jx.2.1.2.2 i (by omega)⟩, Jx.2.2.1, Jx.2.2.2⟩, gE_q e (by decide) Jq, gE_bi e (by decide) Jb, gE_s e (by decide) Js, gE_tr e (by decide) Jt⟩
  · exact sp_Rf_end (d := d + 59) (fun z => absurd (by rw [ee]; exact z) c) (fun _ => gI_end rfl I)
set_option maxRecDepth 100000 in
theorem st_readings {x y : Int32} (I : gI w u q) : gSt l G d m_Gp_readings m_Rf_readings [.int x, .int y] w u q := by
  obtain ⟨n, k, ms, tp, nt, D, N, Ng, nb, T, tl, tm, Jm, Jg, Jx, Jq, Jb, Js, Jt⟩ := id I
  have hmi : ∀ W, gs_R w W → ∀ kn, kn < 6 → gf_mind W kn (D kn).2.2.2.2.2.1 := fun W h kn hk => gf_mind_R h (Jq.2 kn hk).1.2.2.2.1
  refine sp_Gp_readings (d := d + 47) Jm Jq Jg.2.2.2.1 Jg.1 (fun i hi => (Jg.2.2.2.2.1 i hi).2) (fun kn b W ek hk eb hb hn hW => ⟨_, rfl, ?_⟩) (fun h0 => ⟨_, rfl, ?_⟩)
  · have e := gs_gE hW
    refine sp_Rf_readings (d := d + 45) (hmi W hW) (gJ_ms (gE_m e (by decide) Jm) (gE_g e (by decide) Jg)) Jg.2.2.1 (fun kn' b' W' ek' hk' eb' hb' _ hW' => gI_end ?_ (gI_R hW' (gI_R hW I))) (fun z => absurd ⟨by rw [ek]; exact ⟨nI_pos' (by omega), nI_le (b := 5) (by omega) (by decide)⟩, by rw [eb]; exact ⟨nI_pos' (by omega), nI_le (b := 9999) (by omega) (by decide)⟩, hn⟩ z)
    have kk : kn' = kn := (nI_eq (by omega) (by omega)).mp (ek'.symm.trans ek)
    have bb : b' = b := (nI_eq (by omega) (by omega)).mp (eb'.symm.trans eb)
    subst kk bb
    rw [gz_all_congr (gf_same_R hW)]
  · exact sp_Rf_readings (d := d + 45) (fun kn hk => (Jq.2 kn hk).1.2.2.2.1) (gJ_ms Jm Jg) Jg.2.2.1 (fun kn b W ek hk eb hb hn _ => absurd ⟨by rw [ek]; exact ⟨nI_pos' (by omega), nI_le (b := 5) (by omega) (by decide)⟩, by rw [eb]; exact ⟨nI_pos' (by omega), nI_le (b := 9999) (by omega) (by decide)⟩, hn⟩ h0) (fun _ => gI_end rfl I)
set_option maxRecDepth 100000 in
theorem st_cheapest {x y : Int32} (I : gI w u q) : gSt l G d m_Gp_cheapest m_Rf_cheapest [.int x, .int y] w u q := by
  obtain ⟨n, k, ms, tp, nt, D, N, Ng, nb, T, tl, tm, Jm, Jg, Jx, Jq, Jb, Js, Jt⟩ := id I
  have hmi : ∀ W, gs_R w W → ∀ kn, kn < 6 → gf_mind W kn (D kn).2.2.2.2.2.1 := fun W h kn hk => gf_mind_R h (Jq.2 kn hk).1.2.2.2.1
  refine sp_Gp_cheapest (d := d + 46) Jm Jq Jg.2.2.2.1 Jg.1 (fun i hi => (Jg.2.2.2.2.1 i hi).2) (fun kn e W ek hk hn he hW => ⟨_, rfl, ?_⟩) (fun h0 => ⟨_, rfl, ?_⟩)
  · have e6 := gs_gE hW
    refine sp_Rf_cheapest (d := d + 44) (hmi W hW) (gJ_ms (gE_m e6 (by decide) Jm) (gE_g e6 (by decide) Jg)) Jg.2.2.1 (fun kn' e' W' ek' hk' _ he' hW' => gI_end ?_ (gI_R hW' (gI_R hW I))) (fun z => absurd ⟨by rw [ek]; exact ⟨nI_pos' (by omega), nI_le (b := 5) (by omega) (by decide)⟩, hn⟩ z)
    have kk : kn' = kn := (nI_eq (by omega) (by omega)).mp (ek'.symm.trans ek)
    subst kk
    rw [gz_all_congr (gf_same_R hW), he] at he'
    have ee := Option.some.inj he'
    subst ee
    have e101 : W 101 = w 101 := (gf_same_R hW).1 101 (by decide) (by decide)
    have ef : gz_flS W = gz_flS w := by
      funext a b c d e
      unfold gz_flS
      rw [e101]
    unfold gz_ans gz_fall
    rw [ef]
  · exact sp_Rf_cheapest (d := d + 44) (fun kn hk => (Jq.2 kn hk).1.2.2.2.1) (gJ_ms Jm Jg) Jg.2.2.1 (fun kn e W ek hk hn _ _ => absurd ⟨by rw [ek]; exact ⟨nI_pos' (by omega), nI_le (b := 5) (by omega) (by decide)⟩, hn⟩ h0) (fun _ => gI_end rfl I)

end
