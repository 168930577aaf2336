section
variable {l : Launch} {G : gp_G} {d : Nat} {w : Nat → Nat → Int32} {u : Int64 × (Nat → Int64)} {q : Nat → Nat} {K : Option Value → gp_H → Prop}
/-! ===== one call of both: feed ===== -/
theorem gf_fe_R {a b c e f : Int32} {t : Nat} {W : Nat → Nat → Int32} (h : W 95 33 = nI t) (ht : t ≤ 500) : ∀ k, k ≤ 20 → ga_R 118 95 33 t k (gf_byte a b c e f) W (gp_it (gf_feS a b c e f) 0 k W)
  | 0, _ => ⟨h, fun j hj => absurd hj (by omega), fun _ _ => rfl, fun _ _ _ => rfl, fun _ _ => rfl⟩
  | k + 1, hk => by
    obtain ⟨r1, r2, r3, r4, r5⟩ := gf_fe_R (a := a) (b := b) (c := c) (e := e) (f := f) h ht k (by omega)
    rw [gp_it_snoc, Nat.zero_add]
    generalize gp_it (gf_feS a b c e f) 0 k W = X at r1 r2 r3 r4 r5
    unfold gf_feS
    rw [r1, nI_clamp (by omega), show nI (t + k) + 1 = nI (t + k + 1) from nI_1 (t + k)]
    have x118 : ∀ j, gw (gw X 118 (t + k) (gf_byte a b c e f k)) 95 33 (nI (t + k + 1)) 118 j = if j = t + k then gf_byte a b c e f k else X 118 j := fun j => rfl
    refine ⟨rfl, fun j hj => ?_, fun x hx => ?_, fun b' h1 h2 => ?_, fun g hg => ?_⟩
    · rw [x118]
      by_cases z : j = k
      · rw [if_pos (by omega), z]
      · rw [if_neg (by omega)]
        exact r2 j (by omega)
    · rw [x118, if_neg (by omega)]
      exact r3 x hx
    · rw [gw_ne h2, gw_ne h1]
      exact r4 b' h1 h2
    · rw [gw_at, if_neg hg, gw_ne (by decide)]
      exact r5 g hg
theorem gf_byte_b (a b c e f : Int32) (k : Nat) : ∃ v : Nat, v < 256 ∧ gf_byte a b c e f k = nI v := by
  unfold gf_byte
  rw [pk_and _ 8 (by decide)]
  exact ⟨_, Nat.mod_lt _ (by decide), rfl⟩
set_option maxRecDepth 100000 in
theorem st_feed {a b c e f : Int32} (I : gI w u q) : gSt l G d m_Gp_feed m_Rf_feed [.int a, .int b, .int c, .int e, .int f] w u q := by
  obtain ⟨n, k, ms, tp, nt, D, N, Ng, nb, T, tl, tm, Jm, Jg, Jx, Jq, Jb, Js, Jt⟩ := id I
  obtain ⟨⟨x1, x2, x3⟩, ⟨y1, y2, y3⟩, z1, z2⟩ := id Jx
  have ee : w 55 4 = w 95 33 := x1.trans y1.symm
  obtain ⟨B, hB⟩ := Classical.axiomOfChoice (gf_byte_b a b c e f)
  refine sp_Gp_feed (d := d + 59) x1 x2 (fun c0 => ⟨_, rfl, ?_⟩) (fun c1 c2 W hW => ⟨_, rfl, ?_⟩)
  · exact sp_Rf_feed (d := d + 60) y1 y2 (fun _ => gI_end rfl I) (fun z => absurd (by rw [← ee]; exact c0) z)
  · obtain ⟨w1, w2, w3, w4, w5⟩ := hW
    have f33 : W 95 33 = nI nt := by rw [w4 95 (by decide) (by decide)]; exact y1
    refine sp_Rf_feed (d := d + 60) f33 y2 (fun z => absurd (by rw [ee, y1, ← f33]; exact z) c1) (fun _ => ?_)
    obtain ⟨r1, r2, r3, r4, r5⟩ := gf_fe_R (a := a) (b := b) (c := c) (e := e) (f := f) f33 x2 20 (by omega)
    refine gI_end r1 ?_
    generalize gp_it (gf_feS a b c e f) 0 20 W = X at r1 r2 r3 r4 r5
    have e3 : gE 3 w X := ⟨fun b h1 h2 h3 => by
      rw [r4 b (fun z => h3 (by rw [z]; decide)) h1, w4 b (fun z => h3 (by rw [z]; decide)) (fun z => h3 (by rw [z]; decide))], fun g h1 h2 => by
      rw [r5 g (fun z => h2 (by rw [z]; decide)), w4 95 (by decide) (by decide)]⟩
    refine ⟨n, k, ms, fun i => if i < nt then tp i else B (i - nt), nt + 20, D, N, Ng, nb, T, tl, tm, gE_m e3 (by decide) Jm, gE_g e3 (by decide) Jg, ⟨⟨?_, by omega, fun i hi => ?_⟩, ⟨r1, by omega, fun i hi => ?_⟩, ?_, ?_⟩, gE_q e3 (by decide) Jq, gE_bi e3 (by decide) Jb, gE_s e3 (by decide) Js, gE_tr e3 (by decide) Jt⟩
    · rw [r4 55 (by decide) (by decide)]
      exact w1
    · rw [r4 56 (by decide) (by decide)]
      show W 56 i = nI (if i < nt then tp i else B (i - nt)) ∧ (if i < nt then tp i else B (i - nt)) < 256
      by_cases z : i < nt
      · rw [if_pos z, w3 i z]
        exact x3 i z
      · rw [if_neg z]
        have h1 := w2 (i - nt) (by omega)
        rw [show nt + (i - nt) = i by omega] at h1
        exact ⟨h1.trans (hB (i - nt)).2, (hB (i - nt)).1⟩
    · show X 118 i = nI (if i < nt then tp i else B (i - nt)) ∧ (if i < nt then tp i else B (i - nt)) < 256
      by_cases z : i < nt
      · rw [if_pos z, r3 i z, w4 118 (by decide) (by decide)]
        exact y3 i z
      · rw [if_neg z]
        have h1 := r2 (i - nt) (by omega)
        rw [show nt + (i - nt) = i by omega] at h1
        exact ⟨h1.trans (hB (i - nt)).2, (hB (i - nt)).1⟩
    · rw [r4 55 (by decide) (by decide), w5 7 (by decide), r5 40 (by decide), w4 95 (by decide) (by decide)]
      exact z1
    · rw [r4 55 (by decide) (by decide), w5 8 (by decide), r5 42 (by decide), w4 95 (by decide) (by decide)]
      exact z2

end
