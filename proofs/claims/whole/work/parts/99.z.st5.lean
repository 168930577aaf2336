section
variable {l : Launch} {G : gp_G} {d : Nat} {w : Nat → Nat → Int32} {u : Int64 × (Nat → Int64)} {q : Nat → Nat} {K : Option Value → gp_H → Prop}
/-! ===== one call of both: beat, put ===== -/
set_option maxRecDepth 100000 in
theorem st_beat {p s x y : Int32} (I : gI w u q) : gSt l G d m_Gp_beat m_Rf_beat [.int p, .int s, .int x, .int y] w u q := by
  obtain ⟨n, k, ms, tp, nt, D, N, Ng, nb, T, tl, tm, Jm, Jg, Jx, Jq, Jb, Js, Jt⟩ := id I
  have h14 := Js.2.2.1
  have eb : w 83 7 = w 95 57 := Js.1.trans Js.2.1.symm
  have lt : w 83 7 < 14 ↔ ¬ w 95 57 = 14 := by
    rw [Js.1, Js.2.1]
    constructor
    · intro h z
      rw [z] at h
      exact absurd h (by decide)
    · intro h
      refine nI_lt (b := 14) ?_ (by decide)
      rcases Nat.lt_or_ge nb 14 with z | z
      · exact z
      · exact absurd (by rw [show nb = 14 by omega]; rfl) h
  have v1 : w 83 7 < 14 → vp_in (w 83 7) 14 := fun h => by
    rw [Js.1] at h ⊢
    exact vp_in_nI ((nI_ltI (b := 14) (by omega) (by decide)).mp h) (by decide)
  refine sp_Gp_beat (d := d + 59) v1 (fun c => ⟨_, rfl, ?_⟩) (fun c => ⟨_, rfl, ?_⟩)
  · obtain ⟨c1, c2, c3, c4, c5⟩ := c
    have cn : (w 83 7).toNatClampNeg = nb := by rw [Js.1]; exact nI_clamp (by omega)
    have hnb : nb < 14 := (nI_ltI (b := 14) (by omega) (by decide)).mp (by rw [← Js.1]; exact c5)
    refine sp_Rf_beat (d := d + 59) (fun z => by show vp_in (w 95 57) 14; rw [← eb]; exact v1 c5) (fun _ => gI_end ?_ ?_) (fun z => absurd ⟨c1, c2, c3, c4, lt.mp c5⟩ z)
    · show w 95 57 + 1 - 1 = w 83 7 + 1 - 1
      rw [eb]
    · have e1 : gf_Cbeat w p s x y = gw (gw (gw (gw (gw (gw w 84 nb p) 85 nb s) 86 nb x) 87 nb y) 88 nb (-1)) 83 7 (nI (nb + 1)) := by
        unfold gf_Cbeat
        rw [cn, Js.1, show nI nb + 1 = nI (nb + 1) from nI_1 nb]
      rw [e1]
      obtain ⟨W1, eW1⟩ : ∃ W1, W1 = gw (gw (gw (gw (gw (gw w 84 nb p) 85 nb s) 86 nb x) 87 nb y) 88 nb (-1)) 83 7 (nI (nb + 1)) := ⟨_, rfl⟩
      have f57 : W1 95 57 = nI nb := by rw [eW1]; exact Js.2.1
      have g1 : gE 6 w W1 := by rw [eW1]; exact gE_w (gE_w (gE_w (gE_w (gE_w (gE_w (gE_r 6 w) (by decide) (by decide)) (by decide) (by decide)) (by decide) (by decide)) (by decide) (by decide)) (by decide) (by decide)) (by decide) (by decide)
      rw [← eW1]
      have e2 : gf_Rbeat W1 p s x y = gw (gw (gw (gw (gw (gw W1 130 nb p) 131 nb s) 132 nb x) 133 nb y) 134 nb (-1)) 95 57 (nI (nb + 1)) := by
        unfold gf_Rbeat
        rw [f57, nI_clamp (by omega), show nI nb + 1 = nI (nb + 1) from nI_1 nb]
      rw [e2]
      obtain ⟨W2, eW2⟩ : ∃ W2, W2 = gw (gw (gw (gw (gw (gw W1 130 nb p) 131 nb s) 132 nb x) 133 nb y) 134 nb (-1)) 95 57 (nI (nb + 1)) := ⟨_, rfl⟩
      have g2 : gE 6 W1 W2 := by rw [eW2]; exact gE_95 (gE_w (gE_w (gE_w (gE_w (gE_w (gE_r 6 W1) (by decide) (by decide)) (by decide) (by decide)) (by decide) (by decide)) (by decide) (by decide)) (by decide) (by decide)) (by decide)
      have e := gE_t g1 g2
      have k1 : W2 83 7 = nI (nb + 1) := by rw [eW2, eW1]; rfl
      have k2 : W2 95 57 = nI (nb + 1) := by rw [eW2]; rfl
      have a84 : ∀ j, W2 84 j = if j = nb then p else w 84 j := fun j => by rw [eW2, eW1]; rfl
      have a85 : ∀ j, W2 85 j = if j = nb then s else w 85 j := fun j => by rw [eW2, eW1]; rfl
      have a86 : ∀ j, W2 86 j = if j = nb then x else w 86 j := fun j => by rw [eW2, eW1]; rfl
      have a87 : ∀ j, W2 87 j = if j = nb then y else w 87 j := fun j => by rw [eW2, eW1]; rfl
      have a88 : ∀ j, W2 88 j = if j = nb then -1 else w 88 j := fun j => by rw [eW2, eW1]; rfl
      have b130 : ∀ j, W2 130 j = if j = nb then p else w 130 j := fun j => by rw [eW2, eW1]; rfl
      have b131 : ∀ j, W2 131 j = if j = nb then s else w 131 j := fun j => by rw [eW2, eW1]; rfl
      have b132 : ∀ j, W2 132 j = if j = nb then x else w 132 j := fun j => by rw [eW2, eW1]; rfl
      have b133 : ∀ j, W2 133 j = if j = nb then y else w 133 j := fun j => by rw [eW2, eW1]; rfl
      have b134 : ∀ j, W2 134 j = if j = nb then -1 else w 134 j := fun j => by rw [eW2, eW1]; rfl
      have s89 : ∀ j, W2 89 j = w 89 j := fun j => by rw [eW2, eW1]; rfl
      have s90 : ∀ j, W2 90 j = w 90 j := fun j => by rw [eW2, eW1]; rfl
      have s135 : ∀ j, W2 135 j = w 135 j := fun j => by rw [eW2, eW1]; rfl
      have s136 : ∀ j, W2 136 j = w 136 j := fun j => by rw [eW2, eW1]; rfl
      rw [← eW2]
      obtain ⟨xi, hxi, exi⟩ := gJ_r (N := 39) (by decide) c3
      obtain ⟨yi, hyi, eyi⟩ := gJ_r (N := 39) (by decide) c4
      obtain ⟨s1, s2, s3, s4, s5, s6⟩ := Js
      refine ⟨n, k, ms, tp, nt, D, N, Ng, nb + 1, T, tl, tm, gE_m e (by decide) Jm, gE_g e (by decide) Jg, gE_x e (by decide) Jx, gE_q e (by decide) Jq, gE_bi e (by decide) Jb, ⟨k1, k2, by omega, fun i hi => ?_, fun i hi => ?_, fun i hi => ?_⟩, gE_tr e (by decide) Jt⟩
      · obtain ⟨t1, t2, t3, t4, t5, t6, t7⟩ := s4 i hi
        rw [a84, a85, a86, a87, a88, s89, s90, b130, b131, b132, b133, b134, s135, s136, t1, t2, t3, t4, t5]
        exact ⟨rfl, rfl, rfl, rfl, rfl, t6, t7⟩
      · rw [b132, b133]
        by_cases z : i = nb
        · rw [if_pos z, if_pos z]
          exact ⟨⟨xi, by omega, exi⟩, yi, by omega, eyi⟩
        · rw [if_neg z, if_neg z]
          exact s5 i (by omega)
      · rw [s136]
        exact s6 i hi
  · exact sp_Rf_beat (d := d + 59) (fun z => by rw [← eb]; exact v1 (lt.mpr z)) (fun z => absurd ⟨z.1, z.2.1, z.2.2.1, z.2.2.2.1, lt.mpr z.2.2.2.2⟩ c) (fun _ => gI_end rfl I)

end
