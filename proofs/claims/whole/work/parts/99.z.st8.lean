section
variable {l : Launch} {G : gp_G} {d : Nat} {w : Nat → Nat → Int32} {u : Int64 × (Nat → Int64)} {q : Nat → Nat} {K : Option Value → gp_H → Prop}
/-! ===== one call of both: bits ===== -/
theorem gf_bi_R {v : Int32} {a f : Nat} (ha : a ≠ 95) : ∀ (k t : Nat) (W : Nat → Nat → Int32), W 95 f = nI t → t + k < 2 ^ 31 → ga_R a 95 f t k (fun j => (v >>> (nI (k - 1 - j) &&& 31)) &&& 1) W (gf_bi v a f k W)
  | 0, t, W, e, _ => ⟨e, fun j hj => absurd hj (by omega), fun _ _ => rfl, fun _ _ _ => rfl, fun _ _ => rfl⟩
  | k + 1, t, W, e, h => by
    have ce : (W 95 f).toNatClampNeg = t := by rw [e]; exact nI_clamp (by omega)
    have e1 : nI t + 1 = nI (t + 1) := nI_1 t
    show ga_R a 95 f t (k + 1) _ W (gf_bi v a f k (gw (gw W a (W 95 f).toNatClampNeg ((v >>> (nI k &&& 31)) &&& 1)) 95 f (W 95 f + 1)))
    rw [ce, e, e1]
    obtain ⟨W1, eW⟩ : ∃ W1, W1 = gw (gw W a t ((v >>> (nI k &&& 31)) &&& 1)) 95 f (nI (t + 1)) := ⟨_, rfl⟩
    rw [← eW]
    obtain ⟨r1, r2, r3, r4, r5⟩ := gf_bi_R (v := v) (f := f) ha k (t + 1) W1 (by rw [eW, gw_at, if_pos rfl]) (by omega)
    have wa : ∀ x, W1 a x = if x = t then (v >>> (nI k &&& 31)) &&& 1 else W a x := fun x => by rw [eW, gw_ne ha, gw_at]
    refine ⟨by rw [r1]; congr 1; omega, fun j hj => ?_, fun x hx => ?_, fun b h1 h2 => ?_, fun g hg => ?_⟩
    · show _ = (v >>> (nI (k + 1 - 1 - j) &&& 31)) &&& 1
      cases j with
      | zero =>
        rw [Nat.add_zero, r3 t (by omega), wa, if_pos rfl]
        rfl
      | succ j =>
        have := r2 j (by omega)
        rw [show t + (j + 1) = t + 1 + j by omega, this, show k + 1 - 1 - (j + 1) = k - 1 - j by omega]
    · rw [r3 x (by omega), wa, if_neg (by omega)]
    · rw [r4 b h1 h2, eW, gw_ne h2, gw_ne h1]
    · rw [r5 g hg, eW, gw_at, if_neg hg, gw_ne (Ne.symm ha)]
set_option maxRecDepth 100000 in
theorem st_bits {x y : Int32} (I : gI w u q) : gSt l G d m_Gp_bits m_Rf_bits [.int x, .int y] w u q := by
  obtain ⟨n, k, ms, tp, nt, D, N, Ng, nb, T, tl, tm, Jm, Jg, Jx, Jq, Jb, Js, Jt⟩ := id I
  obtain ⟨b1, b2, b3, b4, b5, b6, b7, b8⟩ := id Jb
  have ee : w 76 1 = w 95 50 := b1.trans b2.symm
  refine sp_Gp_bits (d := d + 59) b1 b3 (fun c => ⟨_, rfl, ?_⟩) (fun c1 c2 => ⟨_, rfl, ?_⟩) (fun M em m1 m2 m3 W hW => ⟨_, rfl, ?_⟩)
  · refine sp_Rf_bits (d := d + 59) (t := N) (show w 95 50 = nI N from b2) b3 (fun _ => gI_end rfl ?_) (fun z => absurd c z) (fun M em m1 m2 _ => absurd c (by rw [em]; exact nI_ne0 (by omega) (by omega)))
    have e : gE 5 w (gw (gw w 76 1 0) 95 50 0) := gE_95 (gE_w (gE_r 5 w) (by decide) (by decide)) (by decide)
    exact ⟨n, k, ms, tp, nt, D, 0, Ng, nb, T, tl, tm, gE_m e (by decide) Jm, gE_g e (by decide) Jg, gE_x e (by decide) Jx, gE_q e (by decide) Jq, ⟨rfl, rfl, by omega, fun i hi => absurd hi (by omega), b5, b6, b7, b8⟩, gE_s e (by decide) Js, gE_tr e (by decide) Jt⟩
  · refine sp_Rf_bits (d := d + 59) (t := N) b2 b3 (fun z => absurd z c1) (fun _ _ => gI_end rfl I) (fun M em m1 m2 m3 => absurd ⟨by rw [em]; exact ⟨nI_pos' (by omega), nI_le (b := 32) (by omega) (by decide)⟩, ?_⟩ c2)
    rw [em, b1, nI_add]
    exact nI_nlt (a := 400) m3 (by decide)
  · obtain ⟨w1, w2, w3, w4, w5⟩ := hW
    have f50 : W 95 50 = nI N := by rw [w4 95 (by decide) (by decide)]; exact b2
    have ny : ¬ y = 0 := by rw [em]; exact nI_ne0 (by omega) (by omega)
    refine sp_Rf_bits (d := d + 59) (t := N) f50 b3 (fun z => absurd z ny) (fun _ z => absurd ⟨by rw [em]; exact ⟨nI_pos' (by omega), nI_le (b := 32) (by omega) (by decide)⟩, by rw [em, f50, nI_add]; exact nI_nlt (a := 400) m3 (by decide)⟩ z) (fun M' em' _ m2' _ => ?_)
    have mm : M' = M := (nI_eq (by omega) (by omega)).mp (em'.symm.trans em)
    subst mm
    obtain ⟨r1, r2, r3, r4, r5⟩ := gf_bi_R (v := x) (a := 126) (f := 50) (by decide) M' N W f50 (by omega)
    refine gI_end r1 ?_
    generalize gf_bi x 126 50 M' W = X at r1 r2 r3 r4 r5
    have e : gE 5 w X := ⟨fun b h1 h2 h3 => by
      rw [r4 b (fun z => h3 (by rw [z]; decide)) h1, w4 b (fun z => h3 (by rw [z]; decide)) (fun z => h3 (by rw [z]; decide))], fun g h1 h2 => by
      rw [r5 g (fun z => h2 (by rw [z]; decide)), w4 95 (by decide) (by decide)]⟩
    have x76 : X 76 1 = nI (N + M') := by rw [r4 76 (by decide) (by decide)]; exact w1
    have x78 : X 78 = w 78 := by rw [r4 78 (by decide) (by decide), w4 78 (by decide) (by decide)]
    have x79 : X 79 = w 79 := by rw [r4 79 (by decide) (by decide), w4 79 (by decide) (by decide)]
    have x127 : X 127 = w 127 := by rw [r4 127 (by decide) (by decide), w4 127 (by decide) (by decide)]
    have x51 : X 95 51 = w 95 51 := by rw [r5 51 (by decide), w4 95 (by decide) (by decide)]
    refine ⟨n, k, ms, tp, nt, D, N + M', Ng, nb, T, tl, tm, gE_m e (by decide) Jm, gE_g e (by decide) Jg, gE_x e (by decide) Jx, gE_q e (by decide) Jq, ⟨x76, r1, m3, fun i hi => ?_, by rw [x78]; exact b5, by rw [x51]; exact b6, b7, by rw [x79, x127]; exact b8⟩, gE_s e (by decide) Js, gE_tr e (by decide) Jt⟩
    rw [r4 77 (by decide) (by decide)]
    by_cases z : i < N
    · rw [w3 i z, r3 i z, w4 126 (by decide) (by decide)]
      exact b4 i z
    · have h1 := w2 (i - N) (by omega)
      have h2 := r2 (i - N) (by omega)
      rw [show N + (i - N) = i by omega] at h1 h2
      rw [h1, h2]

end
