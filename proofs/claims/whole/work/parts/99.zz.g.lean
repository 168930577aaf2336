section
variable {l : Launch} {G : gp_G} {d : Nat} {w : Nat → Nat → Int32} {u : Int64 × (Nat → Int64)} {q : Nat → Nat} {K : Option Value → gp_H → Prop}
/-! ===== one call of both: mark ===== -/
theorem gC_mark {n : Nat} {a b c e f : Int32} (h : w 1 3 = nI n) (hn : n < 16) : (∀ x, x ≠ 1 → x ≠ 5 + n → gf_Cmark w a b c e f x = w x) ∧ gf_Cmark w a b c e f 1 3 = nI (n + 1) ∧ gf_Cmark w a b c e f 1 4 = w 1 4 ∧ gf_Cmark w a b c e f (5 + n) 0 = a ∧ gf_Cmark w a b c e f (5 + n) 1 = b ∧ gf_Cmark w a b c e f (5 + n) 2 = c ∧ gf_Cmark w a b c e f (5 + n) 3 = e ∧ gf_Cmark w a b c e f (5 + n) 4 = f ∧ ∀ j, 5 ≤ j → gf_Cmark w a b c e f (5 + n) j = w (5 + n) j := by
  have h5 : 5 + n ≠ 1 := by omega
  unfold gf_Cmark
  rw [h, nI_clamp (by omega)]
  refine ⟨fun x h1 h2 => by rw [gw_ne h1, gw_ne h2, gw_ne h2, gw_ne h2, gw_ne h2, gw_ne h2], ?_, ?_, ?_, ?_, ?_, ?_, ?_, fun j hj => ?_⟩
  · rw [gw_at, if_pos rfl]
    exact nI_1 n
  · rw [gw_at, if_neg (by decide), gw_ne h5.symm, gw_ne h5.symm, gw_ne h5.symm, gw_ne h5.symm, gw_ne h5.symm]
  · rw [gw_ne h5, gw_at, if_neg (by decide), gw_at, if_neg (by decide), gw_at, if_neg (by decide), gw_at, if_neg (by decide), gw_at, if_pos rfl]
  · rw [gw_ne h5, gw_at, if_neg (by decide), gw_at, if_neg (by decide), gw_at, if_neg (by decide), gw_at, if_pos rfl]
  · rw [gw_ne h5, gw_at, if_neg (by decide), gw_at, if_neg (by decide), gw_at, if_pos rfl]
  · rw [gw_ne h5, gw_at, if_neg (by decide), gw_at, if_pos rfl]
  · rw [gw_ne h5, gw_at, if_pos rfl]
  · rw [gw_ne h5, gw_at, if_neg (by omega), gw_at, if_neg (by omega), gw_at, if_neg (by omega), gw_at, if_neg (by omega), gw_at, if_neg (by omega)]
theorem gR_mark {n : Nat} {a b c e f : Int32} (h : w 95 0 = nI n) (hn : n < 16) : (∀ x, x ≠ 95 → ¬ (96 ≤ x ∧ x ≤ 100) → x ≠ 103 → gf_Rmark w a b c e f x = w x) ∧ gf_Rmark w a b c e f 95 0 = nI (n + 1) ∧ (∀ j, j ≠ 0 → gf_Rmark w a b c e f 95 j = w 95 j) ∧ (∀ i, gf_Rmark w a b c e f 96 i = if i = n then a else w 96 i) ∧ (∀ i, gf_Rmark w a b c e f 97 i = if i = n then b else w 97 i) ∧ (∀ i, gf_Rmark w a b c e f 98 i = if i = n then c else w 98 i) ∧ (∀ i, gf_Rmark w a b c e f 99 i = if i = n then e else w 99 i) ∧ (∀ i, gf_Rmark w a b c e f 100 i = if i = n then f else w 100 i) ∧ ∀ i, gf_Rmark w a b c e f 103 i = if i = 2 * n + 1 then -1 else if i = 2 * n then -1 else w 103 i := by
  have e2 : 2 * nI n = nI (2 * n) := pk_mul 2 n
  have e3 : nI (2 * n) + 1 = nI (2 * n + 1) := nI_1 _
  unfold gf_Rmark
  rw [h, e2, e3, nI_clamp (n := n) (by omega), nI_clamp (n := 2 * n) (by omega), nI_clamp (n := 2 * n + 1) (by omega)]
  refine ⟨fun x h1 h2 h3 => by rw [gw_ne h1, gw_ne h3, gw_ne h3, gw_ne (by omega), gw_ne (by omega), gw_ne (by omega), gw_ne (by omega), gw_ne (by omega)], ?_, fun j hj => ?_, fun i => ?_, fun i => ?_, fun i => ?_, fun i => ?_, fun i => ?_, fun i => ?_⟩
  · rw [gw_at, if_pos rfl]
    exact nI_1 n
  · rw [gw_at, if_neg hj]
    rfl
  · rfl
  · rfl
  · rfl
  · rfl
  · rfl
  · rw [gw_ne (by decide), gw_at, gw_at]
    rfl
set_option maxHeartbeats 1000000 in
set_option maxRecDepth 100000 in
theorem st_mark {a b c e f : Int32} (I : gI w u q) : gSt l G d m_Gp_mark m_Rf_mark [.int a, .int b, .int c, .int e, .int f] w u q := by
  obtain ⟨n, k, ms, tp, nt, D, N, Ng, nb, T, tl, tm, Jm, Jg, Jx, Jq, Jb, Js, Jt⟩ := id I
  obtain ⟨a1, a2, a3, a4, a5, a6, a7, a8, a9, a10, a11⟩ := id Jm
  have e16 : w 1 3 < 16 ↔ ¬ w 95 0 = 16 := by
    rw [a1, a2]
    constructor
    · intro h z
      rw [z] at h
      exact absurd h (by decide)
    · intro h
      exact nI_lt (b := 16) (Nat.lt_of_le_of_ne a3 (fun z => h (by rw [z]; rfl))) (by decide)
  have n16 : ¬ w 95 0 = 16 → n < 16 := fun h => Nat.lt_of_le_of_ne a3 (fun z => h (by rw [a2, z]; rfl))
  have e2 : 2 * nI n = nI (2 * n) := pk_mul 2 n
  have e3 : nI (2 * n) + 1 = nI (2 * n + 1) := nI_1 _
  have hin : ∀ W : Nat → Nat → Int32, W 95 0 = nI n → (¬ W 95 0 = 16 → vp_in (W 95 0) 16 ∧ vp_in (2 * W 95 0) 32 ∧ vp_in (2 * W 95 0 + 1) 32) := fun W hW h => by
    have h1 := n16 (by rw [a2, ← hW]; exact h)
    rw [hW, e2, e3]
    exact ⟨vp_in_nI h1 (by decide), vp_in_nI (by omega) (by decide), vp_in_nI (by omega) (by decide)⟩
  refine sp_Gp_mark (d := d + 59) (fun h => by rw [a1]; exact vp_in_nI (n16 (e16.mp h)) (by decide)) (fun c1 => ⟨_, rfl, ?_⟩) (fun c0 => ⟨_, rfl, ?_⟩)
  · have hn : n < 16 := n16 (e16.mp c1.2.2.2.2.2)
    obtain ⟨k0, k1, k2, k3, k4, k5, k6, k7, k8⟩ := gC_mark (w := w) (a := a) (b := b) (c := c) (e := e) (f := f) a1 hn
    obtain ⟨W, eW⟩ : ∃ W, W = gf_Cmark w a b c e f := ⟨_, rfl⟩
    rw [← eW] at k0 k1 k2 k3 k4 k5 k6 k7 k8 ⊢
    have w95 : W 95 = w 95 := k0 95 (by decide) (by omega)
    have z95 : W 95 0 = nI n := by rw [w95]; exact a2
    refine sp_Rf_mark (d := d + 59) (hin W z95) (fun _ => gI_end ?_ ?_) (fun z => absurd ⟨c1.1, c1.2.1, c1.2.2.1, c1.2.2.2.1, c1.2.2.2.2.1, by rw [w95]; exact e16.mp c1.2.2.2.2.2⟩ z)
    · rw [z95, a1]
      exact (Int32.add_sub_cancel _ _).symm
    · obtain ⟨r0, r1, r2, r96, r97, r98, r99, r100, r103⟩ := gR_mark (w := W) (a := a) (b := b) (c := c) (e := e) (f := f) z95 hn
      obtain ⟨X, eX⟩ : ∃ X, X = gf_Rmark W a b c e f := ⟨_, rfl⟩
      rw [← eX] at r0 r1 r2 r96 r97 r98 r99 r100 r103 ⊢
      have wb : ∀ x, 95 ≤ x → W x = w x := fun x hx => k0 x (by omega) (by omega)
      have xb : ∀ x, x < 95 → X x = W x := fun x hx => r0 x (by omega) (by omega) (by omega)
      rw [wb 96 (by decide)] at r96
      rw [wb 97 (by decide)] at r97
      rw [wb 98 (by decide)] at r98
      rw [wb 99 (by decide)] at r99
      rw [wb 100 (by decide)] at r100
      rw [wb 103 (by decide)] at r103
      have x101 : X 101 = w 101 := by rw [r0 101 (by decide) (by decide) (by decide), wb 101 (by decide)]
      have x102 : X 102 = w 102 := by rw [r0 102 (by decide) (by decide) (by decide), wb 102 (by decide)]
      have x104 : X 104 = w 104 := by rw [r0 104 (by decide) (by decide) (by decide), wb 104 (by decide)]
      have x3 : X 3 = w 3 := by rw [xb 3 (by decide), k0 3 (by decide) (by omega)]
      have xm : ∀ i, i < 16 → i ≠ n → X (5 + i) = w (5 + i) := fun i hi h => by rw [xb _ (by omega), k0 _ (by omega) (by omega)]
      have xn : X (5 + n) = W (5 + n) := xb _ (by omega)
      have x1 : X 1 = W 1 := xb 1 (by decide)
      have xf : ∀ j, j ≠ 0 → X 95 j = w 95 j := fun j hj => by rw [r2 j hj, w95]
      have g : gE 1 w X := ⟨fun x h1 h2 h3 => by
        have hx : ¬ (x = 1 ∨ x = 3 ∨ (5 ≤ x ∧ x ≤ 20) ∨ (96 ≤ x ∧ x ≤ 104)) := fun z => h3 (by unfold gK; rw [if_pos z])
        rw [r0 x h1 (by omega) (by omega), k0 x (by omega) (by omega)], fun j h1 h2 => xf j (fun z => h2 (by rw [z]; rfl))⟩
      refine ⟨n + 1, k, ms, tp, nt, D, N, Ng, nb, T, tl, tm, ?_, ?_, gE_x g (by decide) Jx, gE_q g (by decide) Jq, gE_bi g (by decide) Jb, gE_s g (by decide) Js, ?_⟩
      · refine ⟨by rw [x1]; exact k1, r1, by omega, by rw [x1, k2, xf 1 (by decide)]; exact a4, by rw [xf 1 (by decide)]; exact a5, by rw [xf 13 (by decide)]; exact a6, by rw [x3, x104]; exact a7, fun i hi => ?_, fun i hi => ?_, fun i hi => ?_, fun i hi h2 => ?_⟩
        · rw [r96, r97, r98, r99, r100, x101, x102]
          by_cases z : i = n
          · rw [if_pos z, if_pos z, if_pos z, if_pos z, if_pos z, z, xn, k3, k4, k5, k6, k7, k8 5 (by decide), k8 6 (by decide)]
            exact ⟨rfl, rfl, rfl, rfl, rfl, (a8 n hn).2.2.2.2.2.1, (a8 n hn).2.2.2.2.2.2⟩
          · rw [if_neg z, if_neg z, if_neg z, if_neg z, if_neg z, xm i hi z]
            exact a8 i hi
        · rw [r96, r97, r98, r99, x101]
          by_cases z : i = n
          · rw [if_pos z, if_pos z, if_pos z, if_pos z]
            obtain ⟨v0, h0, g0⟩ := gJ_r (N := 6) (by decide) c1.1
            obtain ⟨v1, h1, g1⟩ := gJ_r (N := 15) (by decide) c1.2.1
            obtain ⟨v2, h2, g2⟩ := gJ_r (N := 99) (by decide) ⟨Int32.le_trans (by decide) c1.2.2.1.1, c1.2.2.1.2⟩
            obtain ⟨v3, h3, g3⟩ := gJ_r (N := 999) (by decide) c1.2.2.2.1
            exact ⟨⟨v0, by omega, g0⟩, ⟨v1, by omega, g1⟩, ⟨v2, h2, g2⟩, ⟨v3, h3, g3⟩, (a9 i hi).2.2.2.2⟩
          · rw [if_neg z, if_neg z, if_neg z, if_neg z]
            exact a9 i hi
        · rw [r103, r103, r98]
          by_cases z : i = n
          · rw [if_neg (by omega), if_pos (by omega), if_pos (by omega), if_pos z, z, xn, k8 7 (by decide), k8 8 (by decide), (a11 n (Nat.le_refl n) hn).1, (a11 n (Nat.le_refl n) hn).2]
            obtain ⟨v2, h2, g2⟩ := gJ_r (N := 99) (by decide) ⟨Int32.le_trans (by decide) c1.2.2.1.1, c1.2.2.1.2⟩
            refine ⟨rfl, rfl, Or.inl rfl, Or.inl rfl, v2, ?_, h2, g2⟩
            have h1 := c1.2.2.1.1
            rw [g2] at h1
            exact (nI_leI (a := 1) (by decide) (by omega)).mp h1
          · rw [if_neg (by omega), if_neg (by omega), if_neg (by omega), if_neg (by omega), if_neg z, xm i (by omega) z]
            exact a10 i (by omega)
        · rw [xm i h2 (by omega)]
          exact a11 i (by omega) h2
      · have g2 := gE_g g (by decide) Jg
        exact ⟨g2.1, g2.2.1, g2.2.2.1, g2.2.2.2.1, fun i hi => ⟨(g2.2.2.2.2.1 i hi).1, by have := (g2.2.2.2.2.1 i hi).2; omega⟩, g2.2.2.2.2.2⟩
      · have t2 := gE_tr g (by decide) Jt
        refine ⟨t2.1, t2.2.1, t2.2.2.1, fun t ht => ?_⟩
        obtain ⟨s1, s2, s3, s4, s5, s6, s7⟩ := t2.2.2.2 t ht
        exact ⟨s1, s2, s3, s4, s5, s6, fun i hi => ⟨by have := (s7 i hi).1; omega, (s7 i hi).2⟩⟩
  · exact sp_Rf_mark (d := d + 59) (hin w a2) (fun z => absurd ⟨z.1, z.2.1, z.2.2.1, z.2.2.2.1, z.2.2.2.2.1, e16.mpr z.2.2.2.2.2⟩ c0) (fun _ => gI_end rfl I)

end
