section
variable {l : Launch} {G : gp_G} {d : Nat} {w : Nat → Nat → Int32} {u : Int64 × (Nat → Int64)} {q : Nat → Nat} {K : Option Value → gp_H → Prop}
/-! ===== one call of both: tell ===== -/
theorem gT_oth {v th : Int32} (h : ∃ a : Nat, a < 16 ∧ th = nI a) : gc_oth v th ↔ ((-1 ≤ v ∧ v ≤ 15) ∧ ¬ v = th) := by
  obtain ⟨a, ha, e⟩ := h
  constructor
  · rintro (h | h)
    · refine ⟨⟨by rw [h]; decide, by rw [h]; decide⟩, fun z => ?_⟩
      exact absurd (show nI a < 0 by rw [← e, ← z, h]; decide) (nI_pos (by omega))
    · exact ⟨⟨Int32.le_trans (by decide) h.1.1, h.1.2⟩, h.2⟩
  · rintro ⟨⟨h1, h2⟩, h3⟩
    by_cases z : v = -1
    · exact Or.inl z
    · refine Or.inr ⟨⟨?_, h2⟩, h3⟩
      have e1 : (-1 : Int32).toInt = -1 := by decide
      have e0 : (0 : Int32).toInt = 0 := by decide
      have c1 := Int32.le_iff_toInt_le.mp h1
      have ne : v.toInt ≠ -1 := fun y => z (Int32.toInt_inj.mp (y.trans e1.symm))
      exact Int32.le_iff_toInt_le.mpr (by omega)
theorem gT_v {v th : Int32} (h : gc_oth v th) : v = -1 ∨ ∃ a : Nat, a < 16 ∧ v = nI a := by
  rcases h with h | h
  · exact Or.inl h
  · obtain ⟨a, ha, e⟩ := gJ_r (N := 15) (by decide) h.1
    exact Or.inr ⟨a, by omega, e⟩
theorem gT_p : ∀ i, i < 16 → (1 : Int32) <<< (nI i &&& 31) - 1 = nI (2 ^ i - 1) := by decide +kernel
theorem gT_b {v : Int32} {i : Nat} (hi : i < 16) (h0 : 0 ≤ v) (h1 : v ≤ 1 <<< (nI i &&& 31) - 1) : ∀ b, b < 32 → gb v b = true → b < i := by
  intro b hb h
  rw [gT_p i hi] at h1
  have hp : 2 ^ i ≤ 2 ^ 15 := Nat.pow_le_pow_right (by decide) (by omega)
  obtain ⟨y, hy, e⟩ := gJ_r (N := 2 ^ i - 1) (by omega) ⟨h0, h1⟩
  have h2 : 0 < 2 ^ i := Nat.two_pow_pos i
  refine Nat.lt_of_not_le (fun z => ?_)
  have h3 : y < 2 ^ b := Nat.lt_of_lt_of_le (by omega) (Nat.pow_le_pow_right (by decide) z)
  have h4 : gb v b = y.testBit b := by
    rw [e]
    unfold gb
    rw [← BitVec.testBit_toNat, pk_tn (by omega)]
  rw [h4, Nat.testBit_lt_two_pow h3] at h
  exact absurd h (by decide)
theorem gT_J {n i0 jc br kr : Nat} {v : Int32} (I : gI w u q) (J : gJ_m w n) (hi : i0 < n)
    (hc : (jc = 5 ∧ br = 101 ∧ kr = i0 ∧ ∀ b, b < 32 → gb v b = true → b < i0) ∨ (jc = 6 ∧ br = 102 ∧ kr = i0) ∨ (jc = 7 ∧ br = 103 ∧ kr = 2 * i0 ∧ (v = -1 ∨ ∃ a : Nat, a < 16 ∧ v = nI a)) ∨ (jc = 8 ∧ br = 103 ∧ kr = 2 * i0 + 1 ∧ (v = -1 ∨ ∃ a : Nat, a < 16 ∧ v = nI a))) : gI (gw (gw w (5 + i0) jc v) br kr v) u q := by
  obtain ⟨n', k, ms, tp, nt, D, N, Ng, nb, T, tl, tm, Jm, Jg, Jx, Jq, Jb, Js, Jt⟩ := id I
  obtain ⟨a1, a2, a3, a4, a5, a6, a7, a8, a9, a10, a11⟩ := id J
  have en : n' = n := (nI_eq (by have := Jm.2.2.1; omega) (by omega)).mp (Jm.1.symm.trans a1)
  subst en
  have hb : 101 ≤ br ∧ br ≤ 103 := by omega
  have gk : gK br = 1 := by
    unfold gK
    rw [if_pos (by omega)]
  have gi : gK (5 + i0) = 1 := by
    unfold gK
    rw [if_pos (by omega)]
  have g : gE 1 w (gw (gw w (5 + i0) jc v) br kr v) := gE_w (gE_w (gE_r 1 w) (by omega) gi) (by omega) gk
  obtain ⟨X, eX⟩ : ∃ X, X = gw (gw w (5 + i0) jc v) br kr v := ⟨_, rfl⟩
  have xo : ∀ b, b ≠ 5 + i0 → b ≠ br → X b = w b := fun b h1 h2 => by rw [eX, gw_ne h2, gw_ne h1]
  have xs : ∀ i j, i < 16 → X (5 + i) j = if i = i0 ∧ j = jc then v else w (5 + i) j := fun i j h1 => by
    rw [eX, gw_ne (by omega)]
    by_cases z : i = i0
    · rw [z, gw_at]
      by_cases y : j = jc
      · rw [if_pos y, if_pos ⟨rfl, y⟩]
      · rw [if_neg y, if_neg (fun h => y h.2)]
    · rw [gw_ne (by omega), if_neg (fun h => z h.1)]
  have xr : ∀ k, X br k = if k = kr then v else w br k := fun k => by
    rw [eX, gw_at, gw_ne (by omega)]
  rw [← eX] at g ⊢
  have x1 := xo 1 (by omega) (by omega)
  have x3 := xo 3 (by omega) (by omega)
  have x95 := xo 95 (by omega) (by omega)
  have x96 := xo 96 (by omega) (by omega)
  have x97 := xo 97 (by omega) (by omega)
  have x98 := xo 98 (by omega) (by omega)
  have x99 := xo 99 (by omega) (by omega)
  have x100 := xo 100 (by omega) (by omega)
  have x104 := xo 104 (by omega) (by omega)
  have xn : ∀ i j, i < 16 → j ≠ jc → X (5 + i) j = w (5 + i) j := fun i j h1 h2 => by rw [xs i j h1, if_neg (fun h => h2 h.2)]
  refine ⟨n', k, ms, tp, nt, D, N, Ng, nb, T, tl, tm, ?_, gE_g g (by decide) Jg, gE_x g (by decide) Jx, gE_q g (by decide) Jq, gE_bi g (by decide) Jb, gE_s g (by decide) Js, gE_tr g (by decide) Jt⟩
  refine ⟨by rw [x1]; exact a1, by rw [x95]; exact a2, a3, by rw [x1, x95]; exact a4, by rw [x95]; exact a5, by rw [x95]; exact a6, by rw [x3, x104]; exact a7, fun i h => ?_, fun i h => ?_, fun i h => ?_, fun i h h2 => ?_⟩
  · obtain ⟨s1, s2, s3, s4, s5, s6, s7⟩ := a8 i h
    rw [xn i 0 h (by omega), xn i 1 h (by omega), xn i 2 h (by omega), xn i 3 h (by omega), xn i 4 h (by omega), x96, x97, x98, x99, x100]
    refine ⟨s1, s2, s3, s4, s5, ?_, ?_⟩
    · rcases hc with ⟨h1, h2, h3, h4⟩ | ⟨h1, h2, h3⟩ | ⟨h1, h2, h3, h4⟩ | ⟨h1, h2, h3, h4⟩
      · have xr := xr i
        rw [h2] at xr
        rw [xs i 5 h, xr, h3]
        by_cases z : i = i0
        · rw [if_pos ⟨z, h1.symm⟩, if_pos z]
        · rw [if_neg (fun y => z y.1), if_neg z]
          exact s6
      · rw [xn i 5 h (by omega), xo 101 (by omega) (by omega)]
        exact s6
      · rw [xn i 5 h (by omega), xo 101 (by omega) (by omega)]
        exact s6
      · rw [xn i 5 h (by omega), xo 101 (by omega) (by omega)]
        exact s6
    · rcases hc with ⟨h1, h2, h3, h4⟩ | ⟨h1, h2, h3⟩ | ⟨h1, h2, h3, h4⟩ | ⟨h1, h2, h3, h4⟩
      · rw [xn i 6 h (by omega), xo 102 (by omega) (by omega)]
        exact s7
      · have xr := xr i
        rw [h2] at xr
        rw [xs i 6 h, xr, h3]
        by_cases z : i = i0
        · rw [if_pos ⟨z, h1.symm⟩, if_pos z]
        · rw [if_neg (fun y => z y.1), if_neg z]
          exact s7
      · rw [xn i 6 h (by omega), xo 102 (by omega) (by omega)]
        exact s7
      · rw [xn i 6 h (by omega), xo 102 (by omega) (by omega)]
        exact s7
  · rw [x96, x97, x98, x99]
    obtain ⟨s1, s2, s3, s4, s5⟩ := a9 i h
    refine ⟨s1, s2, s3, s4, ?_⟩
    rcases hc with ⟨h1, h2, h3, h4⟩ | ⟨h1, h2, h3⟩ | ⟨h1, h2, h3, h4⟩ | ⟨h1, h2, h3, h4⟩
    · have xr := xr i
      rw [h2, h3] at xr
      rw [xr]
      by_cases z : i = i0
      · rw [if_pos z, z]
        exact h4
      · rw [if_neg z]
        exact s5
    · rw [xo 101 (by omega) (by omega)]
      exact s5
    · rw [xo 101 (by omega) (by omega)]
      exact s5
    · rw [xo 101 (by omega) (by omega)]
      exact s5
  · obtain ⟨s1, s2, s3, s4, s5⟩ := a10 i h
    rw [x98]
    rcases hc with ⟨h1, h2, h3, h4⟩ | ⟨h1, h2, h3⟩ | ⟨h1, h2, h3, h4⟩ | ⟨h1, h2, h3, h4⟩
    · rw [xn i 7 (by omega) (by omega), xn i 8 (by omega) (by omega), xo 103 (by omega) (by omega)]
      exact ⟨s1, s2, s3, s4, s5⟩
    · rw [xn i 7 (by omega) (by omega), xn i 8 (by omega) (by omega), xo 103 (by omega) (by omega)]
      exact ⟨s1, s2, s3, s4, s5⟩
    · have xr1 := xr (2 * i)
      have xr2 := xr (2 * i + 1)
      rw [h2, h3] at xr1 xr2
      rw [if_neg (by omega)] at xr2
      rw [xs i 7 (by omega), xn i 8 (by omega) (by omega), xr1, xr2]
      by_cases z : i = i0
      · rw [if_pos ⟨z, h1.symm⟩, if_pos (by omega)]
        exact ⟨rfl, s2, h4, s4, s5⟩
      · rw [if_neg (fun y => z y.1), if_neg (by omega)]
        exact ⟨s1, s2, s3, s4, s5⟩
    · have xr1 := xr (2 * i)
      have xr2 := xr (2 * i + 1)
      rw [h2, h3] at xr1 xr2
      rw [if_neg (by omega)] at xr1
      rw [xs i 8 (by omega), xn i 7 (by omega) (by omega), xr1, xr2]
      by_cases z : i = i0
      · rw [if_pos ⟨z, h1.symm⟩, if_pos (by omega)]
        exact ⟨s1, rfl, s3, h4, s5⟩
      · rw [if_neg (fun y => z y.1), if_neg (by omega)]
        exact ⟨s1, s2, s3, s4, s5⟩
  · rw [xs i 7 h2, xs i 8 h2, if_neg (by omega), if_neg (by omega)]
    exact a11 i h h2
set_option maxRecDepth 100000 in
theorem st_tell {m what v : Int32} (I : gI w u q) : gSt l G d m_Gp_tell m_Rf_tell [.int m, .int what, .int v] w u q := by
  obtain ⟨n, k, ms, tp, nt, D, N, Ng, nb, T, tl, tm, Jm, Jg, Jx, Jq, Jb, Js, Jt⟩ := id I
  obtain ⟨a1, a2, a3, a4, a5, a6, a7, a8, a9, a10, a11⟩ := id Jm
  have d1 : ∀ i : Nat, 2 * nI i = nI (2 * i) := fun i => pk_mul 2 i
  have d2 : ∀ i : Nat, nI (2 * i) + 1 = nI (2 * i + 1) := fun i => nI_1 _
  have d3 : ∀ i : Nat, nI (2 * i) + 2 - 2 = nI (2 * i) := fun i => Int32.add_sub_cancel _ _
  have d4 : ∀ i : Nat, nI (2 * i) + 3 - 2 = nI (2 * i + 1) := fun i => by
    rw [show nI (2 * i) + 3 = nI (2 * i + 3) from nI_add _ 3]
    exact pk_sub (a := 2 * i + 3) (b := 2) (by omega)
  have hin : ∀ W : Nat → Nat → Int32, W 95 = w 95 → 0 ≤ m → m ≤ W 95 0 - 1 → vp_in m 16 ∧ vp_in (2 * m) 32 ∧ vp_in (2 * m + 1) 32 ∧ vp_in (2 * m + 2 - 2) 32 ∧ vp_in (2 * m + 3 - 2) 32 := fun W hW h0 h1 => by
    rw [hW] at h1
    obtain ⟨i, hi, e⟩ := gf_mk (gJ_ok Jm) h0 h1
    rw [e, d1, d2, d3, d4]
    exact ⟨vp_in_nI (by omega) (by decide), vp_in_nI (by omega) (by decide), vp_in_nI (by omega) (by decide), vp_in_nI (by omega) (by decide), vp_in_nI (by omega) (by decide)⟩
  have dis : ∀ i, i < n → m = nI i → (gf_okT what v m (w 97 m.toNatClampNeg) (w 103 (2 * m).toNatClampNeg) (w 103 (2 * m + 1).toNatClampNeg) ↔ ((what = 0 ∧ 0 ≤ v ∧ v ≤ 1 <<< (m &&& 31) - 1) ∨ (what = 1 ∧ 0 ≤ v ∧ v ≤ 255) ∨ (what = 2 ∧ gc_oth v (w (5 + i) 1) ∧ ¬ (v = -1 ∧ ¬ w (5 + i) 8 = -1)) ∨ (what = 3 ∧ gc_oth v (w (5 + i) 1) ∧ ¬ (¬ v = -1 ∧ w (5 + i) 7 = -1)))) := fun i hi e => by
    have c0 : m.toNatClampNeg = i := by rw [e]; exact nI_clamp (by omega)
    have c1 : (2 * m).toNatClampNeg = 2 * i := by rw [e, d1]; exact nI_clamp (by omega)
    have c2 : (2 * m + 1).toNatClampNeg = 2 * i + 1 := by rw [e, d1, d2]; exact nI_clamp (by omega)
    rw [c0, c1, c2, (a10 i hi).1, (a10 i hi).2.1, (a8 i (by omega)).2.1, gT_oth (a9 i (by omega)).2.1]
    simp only [gf_okT, and_assoc]
  have okR : ∀ i, i < n → m = nI i → ((what = 0 ∧ 0 ≤ v ∧ v ≤ 1 <<< (m &&& 31) - 1) ∨ (what = 1 ∧ 0 ≤ v ∧ v ≤ 255) ∨ (what = 2 ∧ gc_oth v (w (5 + i) 1) ∧ ¬ (v = -1 ∧ ¬ w (5 + i) 8 = -1)) ∨ (what = 3 ∧ gc_oth v (w (5 + i) 1) ∧ ¬ (¬ v = -1 ∧ w (5 + i) 7 = -1))) → ∀ W : Nat → Nat → Int32, W 95 = w 95 → W 97 = w 97 → W 103 = w 103 → (0 ≤ m ∧ m ≤ W 95 0 - 1) ∧ gf_okT what v m (W 97 m.toNatClampNeg) (W 103 (2 * m).toNatClampNeg) (W 103 (2 * m + 1).toNatClampNeg) := fun i hi e h W h1 h2 h3 => by
    rw [h1, h2, h3]
    exact ⟨(gJ_lt Jm).mp ⟨by rw [e]; exact nI_pos' (by omega), by rw [e, a1]; exact nI_lt hi (by omega)⟩, (dis i hi e).mpr h⟩
  have c0 : ∀ i, i < n → m = nI i → m.toNatClampNeg = i := fun i hi e => by rw [e]; exact nI_clamp (by omega)
  have c3 : ∀ i, i < n → m = nI i → (2 * m + 2 - 2).toNatClampNeg = 2 * i := fun i hi e => by rw [e, d1, d3]; exact nI_clamp (by omega)
  have c4 : ∀ i, i < n → m = nI i → (2 * m + 3 - 2).toNatClampNeg = 2 * i + 1 := fun i hi e => by rw [e, d1, d4]; exact nI_clamp (by omega)
  have no : ∀ {a b : Int32}, what = a → a ≠ b → what = b → False := fun h1 h2 h3 => h2 (h1.symm.trans h3)
  refine sp_Gp_tell (d := d + 57) a1 a3 (fun h0 => ⟨_, rfl, ?_⟩) (fun i hi em ew v0 v1 => ⟨_, rfl, ?_⟩) (fun i hi em ew v0 v1 => ⟨_, rfl, ?_⟩) (fun i hi em ew v0 v1 => ⟨_, rfl, ?_⟩) (fun i hi em ew v0 v1 => ⟨_, rfl, ?_⟩)
  · have bad : ∀ {P : Prop}, 0 ≤ m ∧ m ≤ w 95 0 - 1 → gf_okT what v m (w 97 m.toNatClampNeg) (w 103 (2 * m).toNatClampNeg) (w 103 (2 * m + 1).toNatClampNeg) → P := fun z y => by
      obtain ⟨i, hi, e⟩ := gf_mk (gJ_ok Jm) z.1 z.2
      exact absurd ⟨i, hi, e, (dis i hi e).mp y⟩ h0
    exact sp_Rf_tell (d := d + 58) (hin w rfl) (fun _ => gI_end rfl I) (fun z _ y => bad z y) (fun z _ y => bad z y) (fun z _ y => bad z y) (fun z _ y => bad z y)
  · have hW : ∀ b, 95 ≤ b → gw w (5 + i) 5 v b = w b := fun b hb => gw_ne (by omega)
    refine sp_Rf_tell (d := d + 58) (hin _ (hW 95 (by decide))) (fun z => absurd (okR i hi em (Or.inl ⟨ew, v0, v1⟩) _ (hW 95 (by decide)) (hW 97 (by decide)) (hW 103 (by decide))) z) (fun _ _ _ => gI_end rfl ?_) (fun _ z _ => (no ew (by decide) z).elim) (fun _ z _ => (no ew (by decide) z).elim) (fun _ z _ => (no ew (by decide) z).elim)
    rw [c0 i hi em]
    rw [em] at v1
    exact gT_J I Jm hi (Or.inl ⟨rfl, rfl, rfl, gT_b (by omega) v0 v1⟩)
  · have hW : ∀ b, 95 ≤ b → gw w (5 + i) 6 v b = w b := fun b hb => gw_ne (by omega)
    refine sp_Rf_tell (d := d + 58) (hin _ (hW 95 (by decide))) (fun z => absurd (okR i hi em (Or.inr (Or.inl ⟨ew, v0, v1⟩)) _ (hW 95 (by decide)) (hW 97 (by decide)) (hW 103 (by decide))) z) (fun _ z _ => (no ew (by decide) z).elim) (fun _ _ _ => gI_end rfl ?_) (fun _ z _ => (no ew (by decide) z).elim) (fun _ z _ => (no ew (by decide) z).elim)
    rw [c0 i hi em]
    exact gT_J I Jm hi (Or.inr (Or.inl ⟨rfl, rfl, rfl⟩))
  · have hW : ∀ b, 95 ≤ b → gw w (5 + i) 7 v b = w b := fun b hb => gw_ne (by omega)
    refine sp_Rf_tell (d := d + 58) (hin _ (hW 95 (by decide))) (fun z => absurd (okR i hi em (Or.inr (Or.inr (Or.inl ⟨ew, v0, v1⟩))) _ (hW 95 (by decide)) (hW 97 (by decide)) (hW 103 (by decide))) z) (fun _ z _ => (no ew (by decide) z).elim) (fun _ z _ => (no ew (by decide) z).elim) (fun _ _ _ => gI_end rfl ?_) (fun _ z _ => (no ew (by decide) z).elim)
    rw [c3 i hi em]
    exact gT_J I Jm hi (Or.inr (Or.inr (Or.inl ⟨rfl, rfl, rfl, gT_v v0⟩)))
  · have hW : ∀ b, 95 ≤ b → gw w (5 + i) 8 v b = w b := fun b hb => gw_ne (by omega)
    refine sp_Rf_tell (d := d + 58) (hin _ (hW 95 (by decide))) (fun z => absurd (okR i hi em (Or.inr (Or.inr (Or.inr ⟨ew, v0, v1⟩))) _ (hW 95 (by decide)) (hW 97 (by decide)) (hW 103 (by decide))) z) (fun _ z _ => (no ew (by decide) z).elim) (fun _ z _ => (no ew (by decide) z).elim) (fun _ z _ => (no ew (by decide) z).elim) (fun _ _ _ => gI_end rfl ?_)
    rw [c4 i hi em]
    exact gT_J I Jm hi (Or.inr (Or.inr (Or.inr ⟨rfl, rfl, rfl, gT_v v0⟩)))

end
