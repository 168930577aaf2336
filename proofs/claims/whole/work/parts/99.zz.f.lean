section
variable {l : Launch} {G : gp_G} {d : Nat} {w : Nat → Nat → Int32} {u : Int64 × (Nat → Int64)} {q : Nat → Nat} {K : Option Value → gp_H → Prop}
/-! ===== one call of both: mind, the step ===== -/
theorem gMF_q {m k : Nat} {w W : Nat → Nat → Int32} {D : gy_D} (hm : m < 7) (h : gMF m w W) (H : gm_R w k D) : gm_R W k D := by
  have e : ∀ b, 107 ≤ b → W b = w b := fun b hb => h b (by omega) (by omega) (by omega) (by omega) (fun j hj => by have := gp_ma_n hm j hj; omega)
  exact gm_R_eq ⟨fun b hb => by rw [e b (by omega)], fun b b1 b2 i _ => by rw [e b (by omega)], fun i _ => by rw [e 117 (by omega)]⟩ H
theorem gMF_c {m m' : Nat} {w W X : Nat → Nat → Int32} {D : gy_D} (hm : m < 7) (hm' : m' < 7) (hd : m' ≠ m) (h : gMF m w W) (h2 : gm_F W X) (H : gcm_R w m' D) : gcm_R X m' D :=
  gcm_eq (fun j hj => by
    have b := gp_ma_b hm' j hj
    rw [h2.1 _ b.2.2.1 (by omega), h _ (gp_ma_55 hm' j hj) (by have := gp_ma_n hm' j hj; omega) (by have := gp_ma_n hm' j hj; omega) (by have := gp_ma_n hm' j hj; omega) (fun j' hj' => gp_ma_d hm' hm hd hj hj')]) H
set_option maxRecDepth 100000 in
theorem st_mind {x : Int32} (I : gI w u q) : gSt l G d m_Gp_mind m_Rf_mind [.int x] w u q := by
  obtain ⟨n, k, ms, tp, nt, D, N, Ng, nb, T, tl, tm, Jm, Jg, Jx, Jq, Jb, Js, Jt⟩ := id I
  have hm : q 6 < 7 := Jq.1.1 6 (by decide)
  have gT : ∀ W, gMF (q 6) w W → gx_T W tp nt := fun W h => by
    unfold gx_T
    rw [h 95 (by decide) (by decide) (by decide) (by decide) (fun j hj => by have := gp_ma_n hm j hj; omega), h 118 (by decide) (by decide) (by decide) (by decide) (fun j hj => by have := gp_ma_n hm j hj; omega)]
    exact Jx.2.1
  have r5 : ∀ {kn : Nat}, x = nI kn → kn < 6 → 0 ≤ x ∧ x ≤ 5 := fun e h => by rw [e]; exact ⟨nI_pos' (by omega), nI_le (b := 5) (by omega) (by decide)⟩
  refine sp_Gp_mind (d := d + 37) Jx.1 Jq.1 (fun c => ⟨_, rfl, ?_⟩) (fun kn W e p ek hk et fM h4 h7 h8 => ⟨_, rfl, ?_⟩) (fun kn W D' ek hk et fM h4 h7 h8 hR => ⟨_, rfl, ?_⟩)
  · refine sp_Rf_mind (d := d + 19) (tp := tp) (n := nt) Jx.2.1 (fun _ => gI_end rfl ?_) (fun kn W e p ek hk _ _ _ _ _ _ => absurd (r5 ek hk) c) (fun kn W D' ek hk _ _ _ _ _ _ _ _ => absurd (r5 ek hk) c)
    have e : gE 3 w (gw (gw (gw (gw (gw (gw (gw w 55 4 0) 55 7 0) 55 8 (-1)) 95 38 0) 95 33 0) 95 40 0) 95 42 (-1)) := gE_95 (gE_95 (gE_95 (gE_95 (gE_w (gE_w (gE_w (gE_r 3 w) (by decide) (by decide)) (by decide) (by decide)) (by decide) (by decide)) (by decide)) (by decide)) (by decide)) (by decide)
    exact ⟨n, k, ms, tp, 0, D, N, Ng, nb, T, tl, tm, gE_m e (by decide) Jm, gE_g e (by decide) Jg, ⟨⟨rfl, by omega, fun i hi => absurd hi (by omega)⟩, ⟨rfl, by omega, fun i hi => absurd hi (by omega)⟩, rfl, rfl⟩, gE_q e (by decide) Jq, gE_bi e (by decide) Jb, gE_s e (by decide) Js, gE_tr e (by decide) Jt⟩
  · refine sp_Rf_mind (d := d + 19) (gT W fM) (fun z => absurd (r5 ek hk) z) (fun kn' X e' p' ek' hk' et' fX qX x33 x40 x42 => gI_end rfl ?_) (fun kn' X D' ek' hk' et' _ _ _ _ _ _ _ => by rw [et] at et'; cases et')
    rw [et] at et'
    cases et'
    have f := gMF_34 hm fM fX
    obtain ⟨H, e3, e4⟩ := gE_34 f.1 f.2
    have x55 : X 55 = W 55 := fX.1 55 (by decide) (by decide)
    refine ⟨n, k, ms, tp, 0, D, N, Ng, nb, T, tl, tm, gE_m e4 (by decide) (gE_m e3 (by decide) Jm), gE_g e4 (by decide) (gE_g e3 (by decide) Jg), ⟨⟨by rw [x55]; exact h4, by omega, fun i hi => absurd hi (by omega)⟩, ⟨x33, by omega, fun i hi => absurd hi (by omega)⟩, by rw [x55, h7, x40], by rw [x55, h8, x42]⟩, ⟨Jq.1, fun k' hk'2 => ?_⟩, gE_bi e4 (by decide) (gE_bi e3 (by decide) Jb), gE_s e4 (by decide) (gE_s e3 (by decide) Js), gE_tr e4 (by decide) (gE_tr e3 (by decide) Jt)⟩
    obtain ⟨j1, j2, j3⟩ := Jq.2 k' hk'2
    exact ⟨gm_R_eq (qX k' hk'2) (gMF_q hm fM j1), gMF_c hm (Jq.1.1 k' (by omega)) (fun z => by have := Jq.1.2 k' 6 (by omega) (by decide) z; omega) fM fX j2, j3⟩
  · refine sp_Rf_mind (d := d + 19) (gT W fM) (fun z => absurd (r5 ek hk) z) (fun kn' X e' p' ek' hk' et' _ _ _ _ _ => by rw [et] at et'; cases et') (fun kn' X D2 ek' hk' et' fX qX rX wX x33 x40 x42 => ?_)
    rw [et] at et'
    cases et'
    have kk : kn' = kn := (nI_eq (by omega) (by omega)).mp (ek'.symm.trans ek)
    subst kk
    have f := gMF_34 hm fM fX
    obtain ⟨H, e3, e4⟩ := gE_34 f.1 f.2
    have x55 : X 55 = W 55 := fX.1 55 (by decide) (by decide)
    have sA : gq_sw q kn' kn' = q 6 := by unfold gq_sw; rw [if_pos rfl]
    have s6 : gq_sw q kn' 6 = q kn' := by unfold gq_sw; rw [if_neg (by omega), if_pos rfl]
    have sN : ∀ i, i ≠ kn' → i ≠ 6 → gq_sw q kn' i = q i := fun i h1 h2 => by unfold gq_sw; rw [if_neg h1, if_neg h2]
    have qs : gc_q (gq_sw q kn') := by
      obtain ⟨q1, q2⟩ := Jq.1
      have val : ∀ i, i < 7 → ∃ j, j < 7 ∧ gq_sw q kn' i = q j ∧ (i = kn' → j = 6) ∧ (i = 6 → j = kn') ∧ (i ≠ kn' → i ≠ 6 → j = i) := fun i hi => by
        by_cases z : i = kn'
        · exact ⟨6, by decide, by rw [z]; exact sA, fun _ => rfl, fun y => by omega, fun y => absurd z y⟩
        · by_cases y : i = 6
          · exact ⟨kn', by omega, by rw [y]; exact s6, fun y => absurd y z, fun _ => rfl, fun _ v => absurd y v⟩
          · exact ⟨i, hi, sN i z y, fun v => absurd v z, fun v => absurd v y, fun _ _ => rfl⟩
      refine ⟨fun i hi => ?_, fun a b ha hb hab => ?_⟩
      · obtain ⟨j, hj, e, _⟩ := val i hi
        rw [e]
        exact q1 j hj
      · obtain ⟨j, hj, e, v1, v2, v3⟩ := val a ha
        obtain ⟨j', hj', e', v1', v2', v3'⟩ := val b hb
        rw [e, e'] at hab
        have := q2 j j' hj hj' hab
        by_cases za : a = kn' <;> by_cases zb : b = kn' <;> by_cases ya : a = 6 <;> by_cases yb : b = 6 <;> simp_all <;> omega
    refine ⟨rfl, X, u, gq_sw q kn', rfl, n, k, ms, tp, 0, fun i => if i = kn' then D' else D i, N, Ng, nb, T, tl, tm, gE_m e4 (by decide) (gE_m e3 (by decide) Jm), gE_g e4 (by decide) (gE_g e3 (by decide) Jg), ⟨⟨by rw [x55]; exact h4, by omega, fun i hi => absurd hi (by omega)⟩, ⟨x33, by omega, fun i hi => absurd hi (by omega)⟩, by rw [x55, h7, x40], by rw [x55, h8, x42]⟩, ⟨qs, fun k' hk2 => ?_⟩, gE_bi e4 (by decide) (gE_bi e3 (by decide) Jb), gE_s e4 (by decide) (gE_s e3 (by decide) Js), gE_tr e4 (by decide) (gE_tr e3 (by decide) Jt)⟩
    show gm_R X k' (if k' = kn' then D' else D k') ∧ gcm_R X (gq_sw q kn' k') (if k' = kn' then D' else D k') ∧ ((if k' = kn' then D' else D k').2.2.2.1 = 0 ∨ (if k' = kn' then D' else D k').2.2.2.1 = 1)
    by_cases z : k' = kn'
    · rw [if_pos z, z, sA]
      refine ⟨rX, gcm_eq (fun j hj => ?_) (hR wX), gy_text_h et⟩
      have b := gp_ma_b hm j hj
      exact fX.1 _ b.2.2.1 (by omega)
    · rw [if_neg z, sN k' z (by omega)]
      obtain ⟨j1, j2, j3⟩ := Jq.2 k' hk2
      exact ⟨gm_R_eq (qX k' hk2 z) (gMF_q hm fM j1), gMF_c hm (Jq.1.1 k' (by omega)) (fun z => by have := Jq.1.2 k' 6 (by omega) (by decide) z; omega) fM fX j2, j3⟩

end
