section
variable {l : Launch} {G : gp_G} {d : Nat} {w : Nat → Nat → Int32} {u : Int64 × (Nat → Int64)} {q : Nat → Nat} {K : Option Value → gp_H → Prop}
/-! ===== one call of both: put ===== -/
theorem g_php : ∀ (N K : Nat) (f : Nat → Nat), (∀ i, i < K → f i < N) → (∀ i j, i < K → j < K → f i = f j → i = j) → K ≤ N
  | 0, 0, _, _, _ => Nat.le_refl 0
  | 0, K + 1, f, h, _ => absurd (h 0 (by omega)) (by omega)
  | N + 1, 0, _, _, _ => Nat.zero_le _
  | N + 1, K + 1, f, h, inj => by
    by_cases e : ∃ i0, i0 < K + 1 ∧ f i0 = N
    · obtain ⟨i0, h0, e0⟩ := e
      have := g_php N K (fun i => if i = i0 then f K else f i) (fun i hi => by
        show (if i = i0 then f K else f i) < N
        by_cases z : i = i0
        · rw [if_pos z]
          have a := h K (by omega)
          have b : f K ≠ N := fun y => by have := inj K i0 (by omega) h0 (y.trans e0.symm); omega
          omega
        · rw [if_neg z]
          have a := h i (by omega)
          have b : f i ≠ N := fun y => z (inj i i0 (by omega) h0 (y.trans e0.symm))
          omega) (fun i j hi hj hij => by
        have hij : (if i = i0 then f K else f i) = (if j = i0 then f K else f j) := hij
        by_cases z : i = i0
        · by_cases y : j = i0
          · rw [z, y]
          · rw [if_pos z, if_neg y] at hij
            have := inj K j (by omega) (by omega) hij
            omega
        · by_cases y : j = i0
          · rw [if_neg z, if_pos y] at hij
            have := inj i K (by omega) (by omega) hij
            omega
          · rw [if_neg z, if_neg y] at hij
            exact inj i j (by omega) (by omega) hij)
      omega
    · have := g_php N (K + 1) f (fun i hi => by
        have a := h i hi
        have b : f i ≠ N := fun y => e ⟨i, hi, y⟩
        omega) inj
      omega
set_option maxRecDepth 100000 in
theorem st_put {x : Int32} (I : gI w u q) : gSt l G d m_Gp_put m_Rf_put [.int x] w u q := by
  obtain ⟨n, k, ms, tp, nt, D, N, Ng, nb, T, tl, tm, Jm, Jg, Jx, Jq, Jb, Js, Jt⟩ := id I
  obtain ⟨g1, g2, g3, g4, g5, g6⟩ := id Jg
  have h16 := Jm.2.2.1
  have hin : 0 ≤ x ∧ x < w 1 3 → (∀ i, i < k → ¬ nI (ms i) = x) → k < 16 := by
    intro hx hn
    obtain ⟨i, hi, e⟩ := nI_of (Int32.not_lt.mpr hx.1)
    have hx2 := hx.2
    rw [e, Jm.1] at hx2
    have hxn := (nI_ltI hi (by omega)).mp hx2
    have := g_php 16 (k + 1) (fun j => if j < k then ms j else i) (fun j hj => by
      show (if j < k then ms j else i) < 16
      by_cases z : j < k
      · rw [if_pos z]
        have := (g5 j z).2
        omega
      · rw [if_neg z]
        omega) (fun a b ha hb hab => by
      have hab : (if a < k then ms a else i) = (if b < k then ms b else i) := hab
      by_cases za : a < k
      · by_cases zb : b < k
        · rw [if_pos za, if_pos zb] at hab
          exact g6 a b za zb hab
        · rw [if_pos za, if_neg zb] at hab
          exact absurd (by rw [hab, e]) (hn a za)
      · by_cases zb : b < k
        · rw [if_neg za, if_pos zb] at hab
          exact absurd (by rw [← hab, e]) (hn b zb)
        · omega)
    omega
  have hw : (∀ i, i < k → ¬ w 105 i = x) ↔ ∀ i, i < k → ¬ nI (ms i) = x := ⟨fun h i hi => by rw [← (g5 i hi).1]; exact h i hi, fun h i hi => by rw [(g5 i hi).1]; exact h i hi⟩
  refine sp_Gp_put (d := d + 58) g4 g1 (fun c => ⟨_, rfl, ?_⟩) (fun c1 c2 => ⟨_, rfl, ?_⟩) (fun c1 c2 c3 c4 => ⟨_, rfl, ?_⟩)
  · refine sp_Rf_put (d := d + 58) (k := k) g2 g3 (fun z1 z2 => hin ((gJ_lt Jm).mpr z1) (hw.mp z2)) (fun _ => gI_end rfl ?_) (fun z => absurd c z) (fun z => absurd c z)
    have e : gE 2 w (gw (gw w 0 12 0) 95 2 0) := gE_95 (gE_w (gE_r 2 w) (by decide) (by decide)) (by decide)
    exact ⟨n, 0, ms, tp, nt, D, N, Ng, nb, T, tl, tm, gE_m e (by decide) Jm, ⟨rfl, rfl, by decide, gm_P0 ms, fun i hi => absurd hi (by omega), fun i j hi => absurd hi (by omega)⟩, gE_x e (by decide) Jx, gE_q e (by decide) Jq, gE_bi e (by decide) Jb, gE_s e (by decide) Js, gE_tr e (by decide) Jt⟩
  · exact sp_Rf_put (d := d + 58) (k := k) g2 g3 (fun z1 z2 => hin ((gJ_lt Jm).mpr z1) (hw.mp z2)) (fun z => absurd z c1) (fun _ _ => gI_end rfl I) (fun _ z1 z2 => absurd ⟨(gJ_lt Jm).mpr z1, hw.mp z2, hin ((gJ_lt Jm).mpr z1) (hw.mp z2)⟩ c2)
  · refine sp_Rf_put (d := d + 58) (k := k) g2 g3 (fun z1 z2 => hin ((gJ_lt Jm).mpr z1) (hw.mp z2)) (fun z => absurd z c1) (fun _ z => absurd ⟨(gJ_lt Jm).mp c2, hw.mpr c3⟩ z) (fun _ _ _ => gI_end ?_ ?_)
    · show w 95 2 + 1 = w 0 12 + 1
      rw [g1, g2]
    · obtain ⟨i, hi, ei⟩ := nI_of (Int32.not_lt.mpr c2.1)
      have hx2 := c2.2
      rw [ei, Jm.1] at hx2
      have hxn := (nI_ltI hi (by omega)).mp hx2
      have ce : (w 95 2).toNatClampNeg = k := by rw [g2]; exact nI_clamp (by omega)
      have s1 : nI k + 1 = nI (k + 1) := nI_1 k
      show gI (gw (gw (gw w 0 12 (w 0 12 + 1)) 105 (w 95 2).toNatClampNeg x) 95 2 (w 95 2 + 1)) _ _
      rw [ce, g1, g2, s1, ei]
      have e : gE 2 w (gw (gw (gw w 0 12 (nI (k + 1))) 105 k (nI i)) 95 2 (nI (k + 1))) := gE_95 (gE_w (gE_w (gE_r 2 w) (by decide) (by decide)) (by decide) (by decide)) (by decide)
      have a105 : ∀ j, gw (gw (gw w 0 12 (nI (k + 1))) 105 k (nI i)) 95 2 (nI (k + 1)) 105 j = if j = k then nI i else w 105 j := fun j => rfl
      refine ⟨n, k + 1, fun j => if j = k then i else ms j, tp, nt, D, N, Ng, nb, T, tl, tm, gE_m e (by decide) Jm, ⟨rfl, rfl, by omega, gm_put g4 c4 (by omega), fun j hj => ?_, fun a b ha hb hab => ?_⟩, gE_x e (by decide) Jx, gE_q e (by decide) Jq, gE_bi e (by decide) Jb, gE_s e (by decide) Js, gE_tr e (by decide) Jt⟩
      · rw [a105]
        show (if j = k then nI i else w 105 j) = nI (if j = k then i else ms j) ∧ (if j = k then i else ms j) < n
        by_cases z : j = k
        · rw [if_pos z, if_pos z]
          exact ⟨rfl, hxn⟩
        · rw [if_neg z, if_neg z]
          exact g5 j (by omega)
      · have hab : (if a = k then i else ms a) = (if b = k then i else ms b) := hab
        by_cases za : a = k
        · by_cases zb : b = k
          · omega
          · rw [if_pos za, if_neg zb] at hab
            exact absurd (by rw [← hab, ei]) (c3 b (by omega))
        · by_cases zb : b = k
          · rw [if_neg za, if_pos zb] at hab
            exact absurd (by rw [hab, ei]) (c3 a (by omega))
          · rw [if_neg za, if_neg zb] at hab
            exact g6 a b (by omega) (by omega) hab

end
