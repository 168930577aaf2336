section
variable {l : Launch} {G : gp_G} {d : Nat} {w : Nat → Nat → Int32} {u : Int64 × (Nat → Int64)} {q : Nat → Nat} {K : Option Value → gp_H → Prop}
/-! ===== one call of both: grid ===== -/
set_option maxRecDepth 100000 in
theorem st_grid {x y : Int32} (I : gI w u q) : gSt l G d m_Gp_grid m_Rf_grid [.int x, .int y] w u q := by
  obtain ⟨n, k, ms, tp, nt, D, N, Ng, nb, T, tl, tm, Jm, Jg, Jx, Jq, Jb, Js, Jt⟩ := id I
  obtain ⟨b5, b6, b7, b8, b1, b2, b3, b4⟩ := id Jb
  have ee : w 78 1 = w 95 51 := b1.trans b2.symm
  refine sp_Gp_grid (d := d + 59) b1 b3 (fun c => ⟨_, rfl, ?_⟩) (fun c1 c2 => ⟨_, rfl, ?_⟩) (fun M em m1 m2 m3 W hW => ⟨_, rfl, ?_⟩)
  · refine sp_Rf_grid (d := d + 59) (t := Ng) (show w 95 51 = nI Ng from b2) b3 (fun _ => gI_end rfl ?_) (fun z => absurd c z) (fun M em m1 m2 _ => absurd c (by rw [em]; exact nI_ne0 (by omega) (by omega)))
    have e : gE 5 w (gw (gw w 78 1 0) 95 51 0) := gE_95 (gE_w (gE_r 5 w) (by decide) (by decide)) (by decide)
    exact ⟨n, k, ms, tp, nt, D, N, 0, nb, T, tl, tm, gE_m e (by decide) Jm, gE_g e (by decide) Jg, gE_x e (by decide) Jx, gE_q e (by decide) Jq, ⟨b5, b6, b7, b8, rfl, rfl, by omega, fun i hi => absurd hi (by omega)⟩, gE_s e (by decide) Js, gE_tr e (by decide) Jt⟩
  · refine sp_Rf_grid (d := d + 59) (t := Ng) b2 b3 (fun z => absurd z c1) (fun _ _ => gI_end rfl I) (fun M em m1 m2 m3 => absurd ⟨by rw [em]; exact ⟨nI_pos' (by omega), nI_le (b := 32) (by omega) (by decide)⟩, ?_⟩ c2)
    rw [em, b1, nI_add]
    exact nI_nlt (a := 400) m3 (by decide)
  · obtain ⟨w1, w2, w3, w4, w5⟩ := hW
    have f50 : W 95 51 = nI Ng := by rw [w4 95 (by decide) (by decide)]; exact b2
    have ny : ¬ y = 0 := by rw [em]; exact nI_ne0 (by omega) (by omega)
    refine sp_Rf_grid (d := d + 59) (t := Ng) f50 b3 (fun z => absurd z ny) (fun _ z => absurd ⟨by rw [em]; exact ⟨nI_pos' (by omega), nI_le (b := 32) (by omega) (by decide)⟩, by rw [em, f50, nI_add]; exact nI_nlt (a := 400) m3 (by decide)⟩ z) (fun M' em' _ m2' _ => ?_)
    have mm : M' = M := (nI_eq (by omega) (by omega)).mp (em'.symm.trans em)
    subst mm
    obtain ⟨r1, r2, r3, r4, r5⟩ := gf_bi_R (v := x) (a := 127) (f := 51) (by decide) M' Ng W f50 (by omega)
    refine gI_end r1 ?_
    generalize gf_bi x 127 51 M' W = X at r1 r2 r3 r4 r5
    have e : gE 5 w X := ⟨fun b h1 h2 h3 => by
      rw [r4 b (fun z => h3 (by rw [z]; decide)) h1, w4 b (fun z => h3 (by rw [z]; decide)) (fun z => h3 (by rw [z]; decide))], fun g h1 h2 => by
      rw [r5 g (fun z => h2 (by rw [z]; decide)), w4 95 (by decide) (by decide)]⟩
    have x76 : X 78 1 = nI (Ng + M') := by rw [r4 78 (by decide) (by decide)]; exact w1
    have x78 : X 76 = w 76 := by rw [r4 76 (by decide) (by decide), w4 76 (by decide) (by decide)]
    have x79 : X 77 = w 77 := by rw [r4 77 (by decide) (by decide), w4 77 (by decide) (by decide)]
    have x127 : X 126 = w 126 := by rw [r4 126 (by decide) (by decide), w4 126 (by decide) (by decide)]
    have x51 : X 95 50 = w 95 50 := by rw [r5 50 (by decide), w4 95 (by decide) (by decide)]
    refine ⟨n, k, ms, tp, nt, D, N, Ng + M', nb, T, tl, tm, gE_m e (by decide) Jm, gE_g e (by decide) Jg, gE_x e (by decide) Jx, gE_q e (by decide) Jq, ⟨by rw [x78]; exact b5, by rw [x51]; exact b6, b7, by rw [x79, x127]; exact b8, x76, r1, m3, fun i hi => ?_⟩, gE_s e (by decide) Js, gE_tr e (by decide) Jt⟩
    rw [r4 79 (by decide) (by decide)]
    by_cases z : i < Ng
    · rw [w3 i z, r3 i z, w4 127 (by decide) (by decide)]
      exact b4 i z
    · have h1 := w2 (i - Ng) (by omega)
      have h2 := r2 (i - Ng) (by omega)
      rw [show Ng + (i - Ng) = i by omega] at h1 h2
      rw [h1, h2]

end
