section
variable {l : Launch} {G : gp_G} {d : Nat} {w : Nat → Nat → Int32} {u : Int64 × (Nat → Int64)} {q : Nat → Nat} {K : Option Value → gp_H → Prop}
/-! ===== the reference's methods: a line ===== -/
theorem gx_rt_5 {k : Nat} (h : k < 63) : (7 ≤ gx_rt k ∧ gx_rt k ≤ 11) ↔ k < 5 := by
  unfold gx_rt
  repeat' split
  all_goals omega
theorem gy_pr_g {kd nm : Nat → Nat} {j j' : Nat} {E B : gf_L} (h : gy_pr kd nm j = .inr (j', E, B)) : j < j' ∧ E.length + B.length + j ≤ j' ∧ kd (j' - 1) ≠ 31 := by
  unfold gy_pr at h
  split at h
  · simp at h
  · rename_i j1 E1 e1
    have g1 := gy_E_g kd nm _ _ _ e1
    split at h
    · split at h
      · simp at h
      · rename_i j2 B2 e2
        have g2 := gy_an_g (gy_one_g kd nm 8) _ _ _ e2
        simp only [Sum.inr.injEq, Prod.mk.injEq] at h
        obtain ⟨rfl, rfl, rfl⟩ := h
        exact ⟨by omega, by omega, g2.2.2⟩
    · simp only [Sum.inr.injEq, Prod.mk.injEq] at h
      obtain ⟨rfl, rfl, rfl⟩ := h
      exact ⟨by omega, by simp; omega, g1.2.2⟩
section
variable {tp : Nat → Nat} {n : Nat}
set_option maxRecDepth 100000 in
theorem gy_aLine {j c : Nat} {D : gy_D} {dp : Int32} (T : gx_T w tp n) (S : gy_S tp n w j c dp) (hc : c ≤ j) (hD : gy_DR w c D) (hPL : D.2.2.2.2.2.1.length ≤ D.1) (h1 : ∀ W j' D' c', gy_line (gx_kd tp n) (gx_nu tp n) D j = .inr (j', D') → gy_Q w W → gy_S tp n W j' c' (nI 0) → c' ≤ j' → j < j' → gy_DR W c' D' → D'.2.2.2.2.2.1.length ≤ D'.1 → K (some (.int 1)) (gv W u q)) (h0 : ∀ W e p, gy_line (gx_kd tp n) (gx_nu tp n) D j = .inl (e, p) → gy_Q w W → W 95 38 = nI e → W 95 39 = nI (gx_sp tp n p) → K (some (.int 0)) (gv W u q)) : gp_Cal l G (d + 40) m_Rf_aLine [.ref 95] (gv w u q) K := by
  have hD' := hD
  obtain ⟨d1, d2, d3, d4, d5, d6, d7, d8, d9, d10⟩ := hD'
  have hn := T.2.1
  have hb := gx_kd_b tp n j
  have hrb := gx_rt_b hb
  have i6 : vp_in (nI 6) 7 := vp_in_nI (by decide) (by decide)
  have e35 := S.2.1
  have k244 : ∀ (W : Nat → Nat → Int32) (j' : Nat) (D' : gy_D) (c' : Nat) (t1 v1 : Int32), gy_line (gx_kd tp n) (gx_nu tp n) D j = gy_semi (gx_kd tp n) (gy_body (gx_kd tp n) (gx_nu tp n) D j) → ¬ D.1 = 16 → gy_body (gx_kd tp n) (gx_nu tp n) D j = .inr (j', D') → D'.1 = D.1 → gy_Q w W → gy_S tp n W j' c' (nI 0) → c' ≤ j' → j < j' → gy_DR W c' D' → D'.2.2.2.2.2.1.length ≤ D'.1 + 1 → gp_Go l G (d + 40) m_Rf_aLine K 244 [some (.ref 95), some (.int t1), some (.int v1)] [] (gv W u q) 0 0 := by
    intro W j' D' c' t1 v1 el hL eb e1 Q S' hc' hj' hD' hPL'
    obtain ⟨b1, b2, b3, b4, b5, b6, b7, b8, b9, b10⟩ := hD'
    rw [eb] at el
    have e2 : W 111 6 + nI 1 = nI (D'.1 + 1) := by rw [b1, nI_add]
    have DR : gy_DR (gw W 111 6 (W 111 6 + nI 1)) c' (D'.1 + 1, D'.2) := by
      refine ⟨by rw [gw_at, if_pos rfl, e2], by show D'.1 + 1 ≤ 16; omega, b3, b4, b5, b6, b7, b8, ?_, ?_⟩
      · exact gy_prs_fr (w := W) (W := gw W 111 6 _) (m := D'.2.2.2.2.2.1.length) (fun b h1 h2 x _ => by rw [gw_ne (by omega)]) (fun x _ => rfl) (Nat.le_refl _) _ 0 (Nat.le_of_eq (Nat.zero_add _)) b9
      · exact gy_trr_fr (w := W) (W := gw W 111 6 _) rfl rfl rfl (fun x _ => rfl) (Nat.le_refl _) _ b10
    have Q2 : gy_Q w (gw W 111 6 (W 111 6 + nI 1)) := gy_Qw Q rfl
    refine gp_go od_Rf_aLine rfl ?_
    (repeat refine gp_gc [22, 66, 72, 244] od_Rf_aLine rfl rfl ?_)
    refine And.intro i6 ?_
    (repeat refine gp_gc [22, 66, 72, 244] od_Rf_aLine rfl rfl ?_)
    refine And.intro i6 ?_
    (repeat refine gp_gc [22, 66, 72, 244] od_Rf_aLine rfl rfl ?_)
    refine gy_need (d := d + 30) (w := gw W 111 6 (W 111 6 + nI 1)) (k := 59) rfl (by decide) (gy_QT Q2 T) S' (fun b W3 hW3 S3 => ?_) (fun b W3 hW3 k1 k2 => ?_)
    · (repeat refine gp_gc [22, 66, 72, 244] od_Rf_aLine rfl rfl ?_)
      exact And.intro (Or.inr rfl) (h1 W3 (j' + 1) _ c' (el.trans (if_pos b)) (gy_Qt Q2 (gy_QR (hW3 0))) S3 (by omega) (by omega) (gy_DR_R (hW3 c') (Nat.le_refl _) DR) hPL')
    · (repeat refine gp_gc [22, 66, 72, 244] od_Rf_aLine rfl rfl ?_)
      exact And.intro (Or.inl rfl) (h0 W3 1 j' (el.trans (if_neg b)) (gy_Qt Q2 (gy_QR (hW3 0))) k1 k2)
  have k66 : ∀ t1 : Int32, gy_line (gx_kd tp n) (gx_nu tp n) D j = .inl (3, j) → gp_Go l G (d + 40) m_Rf_aLine K 66 [some (.ref 95), some (.int t1), none] [] (gv w u q) 0 0 := by
    intro t1 el
    refine gp_go od_Rf_aLine rfl ?_
    (repeat refine gp_gc [22, 66, 72, 244] od_Rf_aLine rfl rfl ?_)
    refine gy_bad (d := d + 39) S (fun W hW k1 k2 => ?_)
    (repeat refine gp_gc [22, 66, 72, 244] od_Rf_aLine rfl rfl ?_)
    exact And.intro (Or.inl rfl) (h0 W 3 j el (gy_QR (hW 0)) k1 k2)
  have S0 : gy_S tp n (gw w 95 41 0) j c (nI 0) := ⟨S.1, S.2.1, S.2.2.1, S.2.2.2.1, S.2.2.2.2.1, rfl, S.2.2.2.2.2.2⟩
  have Q0 : gy_Q w (gw w 95 41 0) := gy_Qw (gy_Qr w) rfl
  have R0 : ∀ e, gy_R w (gw w 95 41 0) e := fun e => gy_95 (gy_refl w e) rfl
  have k72_0 : gx_kd tp n j = 0 → gy_line (gx_kd tp n) (gx_nu tp n) D j = gy_semi (gx_kd tp n) (gy_body (gx_kd tp n) (gx_nu tp n) D j) → ¬ D.1 = 16 → gp_Go l G (d + 40) m_Rf_aLine K 72 [some (.ref 95), some (.int (nI 7)), none] [] (gv w u q) 0 0 := by
    intro hk el hL
    refine gp_go od_Rf_aLine rfl ?_
    (repeat refine gp_gc [22, 66, 72, 244] od_Rf_aLine rfl rfl ?_)
    refine gy_next (d := d + 31) (w := gw w 95 41 0) T S0 (fun W1 hW1 S1 => ?_)
    have R1 : ∀ e, gy_R w W1 e := fun e => gy_trans (R0 e) (hW1 e) (Nat.le_refl e)
    have T1 := gy_RT (R1 0) T
    have D1 := gy_DR_R (R1 c) (Nat.le_refl _) hD
    (repeat refine gp_gc [22, 66, 72, 244] od_Rf_aLine rfl rfl ?_)
    refine gb_ge_f (by decide) ?_
    (repeat refine gp_gc [22, 66, 72, 244] od_Rf_aLine rfl rfl ?_)
    refine gb_ne_f rfl ?_
    (repeat refine gp_gc [22, 66, 72, 244] od_Rf_aLine rfl rfl ?_)
    have eb : gy_body (gx_kd tp n) (gx_nu tp n) D j = (if gx_kd tp n (j + 1) = 30 then (if gx_nu tp n (j + 1) ≤ 3 then .inr (j + 2, gy_addN D 0 (gx_nu tp n (j + 1))) else .inl (2, j + 1)) else .inl (1, j + 1)) := by
      unfold gy_body
      rw [if_neg (by omega), if_neg (by omega), hk]
      rfl
    refine gy_number (d := d + 30) (A := 0) (B := 3) rfl rfl (by decide) (by decide) T1 S1 (fun c1 c2 c3 W2 hW2 S2 => ?_) (fun W2 e hc2 hW2 k1 k2 => ?_)
    rotate_left
    · have e3 : gy_line (gx_kd tp n) (gx_nu tp n) D j = .inl (e, j + 1) := by
        rw [el, eb]
        rcases hc2 with ⟨z1, rfl⟩ | ⟨z1, z2, rfl⟩
        · rw [if_neg z1]; rfl
        · rw [if_pos z1, if_neg (by omega)]; rfl
      (repeat refine gp_gc [22, 66, 72, 244] od_Rf_aLine rfl rfl ?_)
      refine gb1_ne_f rfl ?_
      (repeat refine gp_gc [22, 66, 72, 244] od_Rf_aLine rfl rfl ?_)
      exact And.intro (Or.inl rfl) (h0 W2 e (j + 1) e3 (gy_Qt (gy_QR (R1 0)) (gy_QR (hW2 0))) k1 k2)
    have ev := S1.2.2.2.1 c1
    rw [if_pos c1, if_pos c3] at eb
    have D2 := gy_DR_R (hW2 c) (Nat.le_refl _) D1
    have Q2 : gy_Q w W2 := gy_Qt (gy_QR (R1 0)) (gy_QR (hW2 0))
    obtain ⟨b1, b2, b3, b4, b5, b6, b7, b8, b9, b10⟩ := D2
    (repeat refine gp_gc [22, 66, 72, 244] od_Rf_aLine rfl rfl ?_)
    refine gb1_ne_t (by decide) ?_
    (repeat refine gp_gc [22, 66, 72, 244] od_Rf_aLine rfl rfl ?_)
    refine gb_ne_f rfl ?_
    (repeat refine gp_gc [22, 66, 72, 244] od_Rf_aLine rfl rfl ?_)
    refine And.intro i6 ?_
    (repeat refine gp_gc [22, 66, 72, 244] od_Rf_aLine rfl rfl ?_)
    refine And.intro i6 ?_
    (repeat refine gp_gc [22, 66, 72, 244] od_Rf_aLine rfl rfl ?_)
    refine gb_ne_t (by decide) ?_
    (repeat refine gp_gc [22, 66, 72, 244] od_Rf_aLine rfl rfl ?_)
    refine gb_ne_t (by decide) ?_
    (repeat refine gp_gc [22, 66, 72, 244] od_Rf_aLine rfl rfl ?_)
    refine gb_ne_t (by decide) ?_
    (repeat refine gp_gc [22, 66, 72, 244] od_Rf_aLine rfl rfl ?_)
    refine gb_ne_t (by decide) ?_
    refine k244 (gw W2 107 6 (W2 107 6 ||| 1 <<< (W1 95 37 &&& 31))) (j + 2) (gy_addN D 0 (gx_nu tp n (j + 1))) c _ _ el hL eb rfl (gy_Qw Q2 rfl) S2 (by omega) (by omega) ?_ (Nat.le_succ_of_le hPL)
    refine ⟨b1, b2, by show W2 107 6 ||| 1 <<< (W1 95 37 &&& 31) = D.2.1 ||| 1 <<< (nI (gx_nu tp n (j + 1)) &&& 31); rw [b3, ev], b4, b5, b6, b7, b8, ?_, ?_⟩
    · exact gy_prs_fr (w := W2) (W := gw W2 107 6 _) (m := D.2.2.2.2.2.1.length) (fun b h1 h2 x _ => by rw [gw_ne (by omega)]) (fun x _ => rfl) (Nat.le_refl _) _ 0 (Nat.le_of_eq (Nat.zero_add _)) b9
    · exact gy_trr_fr (w := W2) (W := gw W2 107 6 _) rfl rfl rfl (fun x _ => rfl) (Nat.le_refl _) _ b10
  have k72_1 : gx_kd tp n j = 1 → gy_line (gx_kd tp n) (gx_nu tp n) D j = gy_semi (gx_kd tp n) (gy_body (gx_kd tp n) (gx_nu tp n) D j) → ¬ D.1 = 16 → gp_Go l G (d + 40) m_Rf_aLine K 72 [some (.ref 95), some (.int (nI 8)), none] [] (gv w u q) 0 0 := by
    intro hk el hL
    refine gp_go od_Rf_aLine rfl ?_
    (repeat refine gp_gc [22, 66, 72, 244] od_Rf_aLine rfl rfl ?_)
    refine gy_next (d := d + 31) (w := gw w 95 41 0) T S0 (fun W1 hW1 S1 => ?_)
    have R1 : ∀ e, gy_R w W1 e := fun e => gy_trans (R0 e) (hW1 e) (Nat.le_refl e)
    have T1 := gy_RT (R1 0) T
    have D1 := gy_DR_R (R1 c) (Nat.le_refl _) hD
    (repeat refine gp_gc [22, 66, 72, 244] od_Rf_aLine rfl rfl ?_)
    refine gb_ge_f (by decide) ?_
    (repeat refine gp_gc [22, 66, 72, 244] od_Rf_aLine rfl rfl ?_)
    refine gb_ne_t (by decide) ?_
    (repeat refine gp_gc [22, 66, 72, 244] od_Rf_aLine rfl rfl ?_)
    refine gb_ne_f rfl ?_
    (repeat refine gp_gc [22, 66, 72, 244] od_Rf_aLine rfl rfl ?_)
    have eb : gy_body (gx_kd tp n) (gx_nu tp n) D j = (if gx_kd tp n (j + 1) = 30 then (if gx_nu tp n (j + 1) ≤ 7 then .inr (j + 2, gy_addN D 1 (gx_nu tp n (j + 1))) else .inl (2, j + 1)) else .inl (1, j + 1)) := by
      unfold gy_body
      rw [if_neg (by omega), if_neg (by omega), hk]
      rfl
    refine gy_number (d := d + 30) (A := 0) (B := 7) rfl rfl (by decide) (by decide) T1 S1 (fun c1 c2 c3 W2 hW2 S2 => ?_) (fun W2 e hc2 hW2 k1 k2 => ?_)
    rotate_left
    · have e3 : gy_line (gx_kd tp n) (gx_nu tp n) D j = .inl (e, j + 1) := by
        rw [el, eb]
        rcases hc2 with ⟨z1, rfl⟩ | ⟨z1, z2, rfl⟩
        · rw [if_neg z1]; rfl
        · rw [if_pos z1, if_neg (by omega)]; rfl
      (repeat refine gp_gc [22, 66, 72, 244] od_Rf_aLine rfl rfl ?_)
      refine gb1_ne_f rfl ?_
      (repeat refine gp_gc [22, 66, 72, 244] od_Rf_aLine rfl rfl ?_)
      exact And.intro (Or.inl rfl) (h0 W2 e (j + 1) e3 (gy_Qt (gy_QR (R1 0)) (gy_QR (hW2 0))) k1 k2)
    have ev := S1.2.2.2.1 c1
    rw [if_pos c1, if_pos c3] at eb
    have D2 := gy_DR_R (hW2 c) (Nat.le_refl _) D1
    have Q2 : gy_Q w W2 := gy_Qt (gy_QR (R1 0)) (gy_QR (hW2 0))
    obtain ⟨b1, b2, b3, b4, b5, b6, b7, b8, b9, b10⟩ := D2
    (repeat refine gp_gc [22, 66, 72, 244] od_Rf_aLine rfl rfl ?_)
    refine gb1_ne_t (by decide) ?_
    (repeat refine gp_gc [22, 66, 72, 244] od_Rf_aLine rfl rfl ?_)
    refine gb_ne_t (by decide) ?_
    (repeat refine gp_gc [22, 66, 72, 244] od_Rf_aLine rfl rfl ?_)
    refine gb_ne_f rfl ?_
    (repeat refine gp_gc [22, 66, 72, 244] od_Rf_aLine rfl rfl ?_)
    refine And.intro i6 ?_
    (repeat refine gp_gc [22, 66, 72, 244] od_Rf_aLine rfl rfl ?_)
    refine And.intro i6 ?_
    (repeat refine gp_gc [22, 66, 72, 244] od_Rf_aLine rfl rfl ?_)
    refine gb_ne_t (by decide) ?_
    (repeat refine gp_gc [22, 66, 72, 244] od_Rf_aLine rfl rfl ?_)
    refine gb_ne_t (by decide) ?_
    (repeat refine gp_gc [22, 66, 72, 244] od_Rf_aLine rfl rfl ?_)
    refine gb_ne_t (by decide) ?_
    refine k244 (gw W2 108 6 (W2 108 6 ||| 1 <<< (W1 95 37 &&& 31))) (j + 2) (gy_addN D 1 (gx_nu tp n (j + 1))) c _ _ el hL eb rfl (gy_Qw Q2 rfl) S2 (by omega) (by omega) ?_ (Nat.le_succ_of_le hPL)
    refine ⟨b1, b2, b3, by show W2 108 6 ||| 1 <<< (W1 95 37 &&& 31) = D.2.2.1 ||| 1 <<< (nI (gx_nu tp n (j + 1)) &&& 31); rw [b4, ev], b5, b6, b7, b8, ?_, ?_⟩
    · exact gy_prs_fr (w := W2) (W := gw W2 108 6 _) (m := D.2.2.2.2.2.1.length) (fun b h1 h2 x _ => by rw [gw_ne (by omega)]) (fun x _ => rfl) (Nat.le_refl _) _ 0 (Nat.le_of_eq (Nat.zero_add _)) b9
    · exact gy_trr_fr (w := W2) (W := gw W2 108 6 _) rfl rfl rfl (fun x _ => rfl) (Nat.le_refl _) _ b10
  have k72_2 : gx_kd tp n j = 2 → gy_line (gx_kd tp n) (gx_nu tp n) D j = gy_semi (gx_kd tp n) (gy_body (gx_kd tp n) (gx_nu tp n) D j) → ¬ D.1 = 16 → gp_Go l G (d + 40) m_Rf_aLine K 72 [some (.ref 95), some (.int (nI 9)), none] [] (gv w u q) 0 0 := by
    intro hk el hL
    refine gp_go od_Rf_aLine rfl ?_
    (repeat refine gp_gc [22, 66, 72, 244] od_Rf_aLine rfl rfl ?_)
    refine gy_next (d := d + 31) (w := gw w 95 41 0) T S0 (fun W1 hW1 S1 => ?_)
    have R1 : ∀ e, gy_R w W1 e := fun e => gy_trans (R0 e) (hW1 e) (Nat.le_refl e)
    have T1 := gy_RT (R1 0) T
    have D1 := gy_DR_R (R1 c) (Nat.le_refl _) hD
    (repeat refine gp_gc [22, 66, 72, 244] od_Rf_aLine rfl rfl ?_)
    refine gb_ge_f (by decide) ?_
    (repeat refine gp_gc [22, 66, 72, 244] od_Rf_aLine rfl rfl ?_)
    refine gb_ne_t (by decide) ?_
    (repeat refine gp_gc [22, 66, 72, 244] od_Rf_aLine rfl rfl ?_)
    refine gb_ne_t (by decide) ?_
    (repeat refine gp_gc [22, 66, 72, 244] od_Rf_aLine rfl rfl ?_)
    have eb : gy_body (gx_kd tp n) (gx_nu tp n) D j = (if gx_kd tp n (j + 1) = 30 then (if gx_nu tp n (j + 1) ≤ 1 then .inr (j + 2, gy_addN D 2 (gx_nu tp n (j + 1))) else .inl (2, j + 1)) else .inl (1, j + 1)) := by
      unfold gy_body
      rw [if_neg (by omega), if_neg (by omega), hk]
      rfl
    refine gy_number (d := d + 30) (A := 0) (B := 1) rfl rfl (by decide) (by decide) T1 S1 (fun c1 c2 c3 W2 hW2 S2 => ?_) (fun W2 e hc2 hW2 k1 k2 => ?_)
    rotate_left
    · have e3 : gy_line (gx_kd tp n) (gx_nu tp n) D j = .inl (e, j + 1) := by
        rw [el, eb]
        rcases hc2 with ⟨z1, rfl⟩ | ⟨z1, z2, rfl⟩
        · rw [if_neg z1]; rfl
        · rw [if_pos z1, if_neg (by omega)]; rfl
      (repeat refine gp_gc [22, 66, 72, 244] od_Rf_aLine rfl rfl ?_)
      refine gb1_ne_f rfl ?_
      (repeat refine gp_gc [22, 66, 72, 244] od_Rf_aLine rfl rfl ?_)
      exact And.intro (Or.inl rfl) (h0 W2 e (j + 1) e3 (gy_Qt (gy_QR (R1 0)) (gy_QR (hW2 0))) k1 k2)
    have ev := S1.2.2.2.1 c1
    rw [if_pos c1, if_pos c3] at eb
    have D2 := gy_DR_R (hW2 c) (Nat.le_refl _) D1
    have Q2 : gy_Q w W2 := gy_Qt (gy_QR (R1 0)) (gy_QR (hW2 0))
    obtain ⟨b1, b2, b3, b4, b5, b6, b7, b8, b9, b10⟩ := D2
    (repeat refine gp_gc [22, 66, 72, 244] od_Rf_aLine rfl rfl ?_)
    refine gb1_ne_t (by decide) ?_
    (repeat refine gp_gc [22, 66, 72, 244] od_Rf_aLine rfl rfl ?_)
    refine gb_ne_t (by decide) ?_
    (repeat refine gp_gc [22, 66, 72, 244] od_Rf_aLine rfl rfl ?_)
    refine gb_ne_t (by decide) ?_
    (repeat refine gp_gc [22, 66, 72, 244] od_Rf_aLine rfl rfl ?_)
    refine gb_ne_f rfl ?_
    (repeat refine gp_gc [22, 66, 72, 244] od_Rf_aLine rfl rfl ?_)
    refine And.intro i6 ?_
    (repeat refine gp_gc [22, 66, 72, 244] od_Rf_aLine rfl rfl ?_)
    refine And.intro i6 ?_
    (repeat refine gp_gc [22, 66, 72, 244] od_Rf_aLine rfl rfl ?_)
    refine gb_ne_t (by decide) ?_
    (repeat refine gp_gc [22, 66, 72, 244] od_Rf_aLine rfl rfl ?_)
    refine gb_ne_t (by decide) ?_
    refine k244 (gw (gw W2 121 6 1) 109 6 (W1 95 37)) (j + 2) (gy_addN D 2 (gx_nu tp n (j + 1))) c _ _ el hL eb rfl (gy_Qw (gy_Qw Q2 rfl) rfl) S2 (by omega) (by omega) ?_ (Nat.le_succ_of_le hPL)
    refine ⟨b1, b2, b3, b4, ev, rfl, b7, b8, ?_, ?_⟩
    · exact gy_prs_fr (w := W2) (W := gw (gw W2 121 6 _) 109 6 _) (m := D.2.2.2.2.2.1.length) (fun b h1 h2 x _ => by rw [gw_ne (by omega), gw_ne (by omega)]) (fun x _ => rfl) (Nat.le_refl _) _ 0 (Nat.le_of_eq (Nat.zero_add _)) b9
    · exact gy_trr_fr (w := W2) (W := gw (gw W2 121 6 _) 109 6 _) rfl rfl rfl (fun x _ => rfl) (Nat.le_refl _) _ b10
  have k72_3 : gx_kd tp n j = 3 → gy_line (gx_kd tp n) (gx_nu tp n) D j = gy_semi (gx_kd tp n) (gy_body (gx_kd tp n) (gx_nu tp n) D j) → ¬ D.1 = 16 → gp_Go l G (d + 40) m_Rf_aLine K 72 [some (.ref 95), some (.int (nI 10)), none] [] (gv w u q) 0 0 := by
    intro hk el hL
    refine gp_go od_Rf_aLine rfl ?_
    (repeat refine gp_gc [22, 66, 72, 244] od_Rf_aLine rfl rfl ?_)
    refine gy_next (d := d + 31) (w := gw w 95 41 0) T S0 (fun W1 hW1 S1 => ?_)
    have R1 : ∀ e, gy_R w W1 e := fun e => gy_trans (R0 e) (hW1 e) (Nat.le_refl e)
    have T1 := gy_RT (R1 0) T
    have D1 := gy_DR_R (R1 c) (Nat.le_refl _) hD
    (repeat refine gp_gc [22, 66, 72, 244] od_Rf_aLine rfl rfl ?_)
    refine gb_ge_t (by decide) ?_
    (repeat refine gp_gc [22, 66, 72, 244] od_Rf_aLine rfl rfl ?_)
    refine gb_ne_t (by decide) ?_
    (repeat refine gp_gc [22, 66, 72, 244] od_Rf_aLine rfl rfl ?_)
    refine gb_ne_t (by decide) ?_
    (repeat refine gp_gc [22, 66, 72, 244] od_Rf_aLine rfl rfl ?_)
    refine gb_ne_t (by decide) ?_
    (repeat refine gp_gc [22, 66, 72, 244] od_Rf_aLine rfl rfl ?_)
    refine gb_ne_f rfl ?_
    (repeat refine gp_gc [22, 66, 72, 244] od_Rf_aLine rfl rfl ?_)
    refine gy_aPrice (d := d) T1 S1 (by omega) D1 (by omega) (fun W2 j2 E B er Q2 S2 hj2 D2 => ?_) (fun W2 e p er Q2 k1 k2 => ?_)
    · have g := gy_pr_g er
      have eb : gy_body (gx_kd tp n) (gx_nu tp n) D j = .inr (j2, gy_addP D E B) := by
        unfold gy_body
        rw [if_pos hk, er]
      (repeat refine gp_gc [22, 66, 72, 244] od_Rf_aLine rfl rfl ?_)
      refine gb1_ne_t (by decide) ?_
      (repeat refine gp_gc [22, 66, 72, 244] od_Rf_aLine rfl rfl ?_)
      refine gb_ne_t (by decide) ?_
      exact k244 W2 j2 (gy_addP D E B) _ _ _ el hL eb rfl (gy_Qt (gy_QR (R1 0)) Q2) S2 hj2 (by omega) D2 (by show (D.2.2.2.2.2.1 ++ [(E, B)]).length ≤ D.1 + 1; rw [List.length_append]; exact Nat.succ_le_succ hPL)
    · have eb : gy_body (gx_kd tp n) (gx_nu tp n) D j = .inl (e, p) := by
        unfold gy_body
        rw [if_pos hk, er]
      rw [eb] at el
      (repeat refine gp_gc [22, 66, 72, 244] od_Rf_aLine rfl rfl ?_)
      refine gb1_ne_f rfl ?_
      (repeat refine gp_gc [22, 66, 72, 244] od_Rf_aLine rfl rfl ?_)
      exact And.intro (Or.inl rfl) (h0 W2 e p el (gy_Qt (gy_QR (R1 0)) Q2) k1 k2)
  have k72_4 : gx_kd tp n j = 4 → gy_line (gx_kd tp n) (gx_nu tp n) D j = gy_semi (gx_kd tp n) (gy_body (gx_kd tp n) (gx_nu tp n) D j) → ¬ D.1 = 16 → gp_Go l G (d + 40) m_Rf_aLine K 72 [some (.ref 95), some (.int (nI 11)), none] [] (gv w u q) 0 0 := by
    intro hk el hL
    refine gp_go od_Rf_aLine rfl ?_
    (repeat refine gp_gc [22, 66, 72, 244] od_Rf_aLine rfl rfl ?_)
    refine gy_next (d := d + 31) (w := gw w 95 41 0) T S0 (fun W1 hW1 S1 => ?_)
    have R1 : ∀ e, gy_R w W1 e := fun e => gy_trans (R0 e) (hW1 e) (Nat.le_refl e)
    have T1 := gy_RT (R1 0) T
    have D1 := gy_DR_R (R1 c) (Nat.le_refl _) hD
    (repeat refine gp_gc [22, 66, 72, 244] od_Rf_aLine rfl rfl ?_)
    refine gb_ge_t (by decide) ?_
    (repeat refine gp_gc [22, 66, 72, 244] od_Rf_aLine rfl rfl ?_)
    refine gb_ne_t (by decide) ?_
    (repeat refine gp_gc [22, 66, 72, 244] od_Rf_aLine rfl rfl ?_)
    refine gb_ne_t (by decide) ?_
    (repeat refine gp_gc [22, 66, 72, 244] od_Rf_aLine rfl rfl ?_)
    refine gb_ne_t (by decide) ?_
    (repeat refine gp_gc [22, 66, 72, 244] od_Rf_aLine rfl rfl ?_)
    refine gb_ne_t (by decide) ?_
    (repeat refine gp_gc [22, 66, 72, 244] od_Rf_aLine rfl rfl ?_)
    refine gb_ne_f rfl ?_
    (repeat refine gp_gc [22, 66, 72, 244] od_Rf_aLine rfl rfl ?_)
    refine And.intro i6 ?_
    (repeat refine gp_gc [22, 66, 72, 244] od_Rf_aLine rfl rfl ?_)
    refine And.intro i6 ?_
    (repeat refine gp_gc [22, 66, 72, 244] od_Rf_aLine rfl rfl ?_)
    obtain ⟨b1, b2, b3, b4, b5, b6, b7, b8, b9, b10⟩ := D1
    have e32 : W1 95 32 = nI c := S1.2.2.2.2.1
    have Q1 : gy_Q w (gw (gw W1 122 6 1) 112 6 (W1 95 32)) := gy_Qw (gy_Qw (gy_QR (R1 0)) rfl) rfl
    refine gy_ssumUp (d := d + 28) (gw (gw W1 122 6 1) 112 6 (W1 95 32)) (j + 1) c _ T1 S1 (by omega) ?_ ?_
    · intro W2 j2 E er R2 S2 seg2
      have g := gy_E_g _ _ _ _ _ er
      have eb : gy_body (gx_kd tp n) (gx_nu tp n) D j = .inr (j2, gy_addT D E) := by
        unfold gy_body
        rw [if_neg (by omega), if_pos hk, er]
      have ed : W2 95 32 = nI (c + E.length) := S2.2.2.2.2.1
      have e : ∀ b, b ≠ 95 → b ≠ 117 → b ≠ 122 → b ≠ 112 → W2 b = W1 b := fun b x1 x2 x3 x4 => by rw [R2.1 b x1 x2, gw_ne x4, gw_ne x3]
      (repeat refine gp_gc [22, 66, 72, 244] od_Rf_aLine rfl rfl ?_)
      refine gb1_ne_t (by decide) ?_
      (repeat refine gp_gc [22, 66, 72, 244] od_Rf_aLine rfl rfl ?_)
      refine And.intro i6 ?_
      (repeat refine gp_gc [22, 66, 72, 244] od_Rf_aLine rfl rfl ?_)
      refine k244 (gw W2 113 6 (W2 95 32)) j2 (gy_addT D E) (c + E.length) _ _ el hL eb rfl (gy_Qw (gy_Qt Q1 (gy_QR R2)) rfl) S2 (by omega) (by omega) ?_ (Nat.le_succ_of_le hPL)
      refine ⟨?_, b2, ?_, ?_, ?_, ?_, ?_, b8, ?_, ?_⟩
      · rw [gw_ne (by decide), e 111 (by decide) (by decide) (by decide) (by decide)]; exact b1
      · rw [gw_ne (by decide), e 107 (by decide) (by decide) (by decide) (by decide)]; exact b3
      · rw [gw_ne (by decide), e 108 (by decide) (by decide) (by decide) (by decide)]; exact b4
      · rw [gw_ne (by decide), e 109 (by decide) (by decide) (by decide) (by decide)]; exact b5
      · rw [gw_ne (by decide), e 121 (by decide) (by decide) (by decide) (by decide)]; exact b6
      · rw [gw_ne (by decide), e 110 (by decide) (by decide) (by decide) (by decide)]; exact b7
      · refine gy_prs_fr (w := W1) (c := c) (m := D.2.2.2.2.2.1.length) (fun b x1 x2 x _ => ?_) (fun x hx => ?_) (by omega) _ 0 (Nat.le_of_eq (Nat.zero_add _)) b9
        · rw [gw_ne (by omega), e b (by omega) (by omega) (by omega) (by omega)]
        · rw [gw_ne (by decide), R2.2.2 x hx, gw_ne (by decide), gw_ne (by decide)]
      · refine ⟨?_, c, ?_, ?_, Nat.le_refl _, ?_⟩
        · rw [gw_ne (by decide), R2.1 122 (by decide) (by decide), gw_ne (by decide), gw_at, if_pos rfl]
        · rw [gw_ne (by decide), R2.1 112 (by decide) (by decide), gw_at, if_pos rfl, e32]
        · rw [gw_at, if_pos rfl, ed]
        · rw [gw_ne (by decide)]; exact seg2
    · intro W2 e p er R2 k1 k2
      have eb : gy_body (gx_kd tp n) (gx_nu tp n) D j = .inl (e, p) := by
        unfold gy_body
        rw [if_neg (by omega), if_pos hk, er]
      rw [eb] at el
      (repeat refine gp_gc [22, 66, 72, 244] od_Rf_aLine rfl rfl ?_)
      refine gb1_ne_f rfl ?_
      (repeat refine gp_gc [22, 66, 72, 244] od_Rf_aLine rfl rfl ?_)
      exact And.intro (Or.inl rfl) (h0 W2 e p el (gy_Qt Q1 (gy_QR R2)) k1 k2)
  refine gp_enter od_Rf_aLine rfl ?_
  (repeat refine gp_gc [22, 66, 72, 244] od_Rf_aLine rfl rfl ?_)
  refine sp_Rf_isIn (d := d + 39) (fun c1 c2 => ?_) (fun c0 => ?_)
  rotate_left
  · have hk : 5 ≤ gx_kd tp n j := by
      refine Nat.le_of_not_lt (fun z => c0 ?_)
      have z := (gx_rt_5 hb).mpr z
      rw [e35]
      exact ⟨nI_le (a := 7) z.1 (by omega), nI_le (b := 11) z.2 (by omega)⟩
    have el : gy_line (gx_kd tp n) (gx_nu tp n) D j = .inl (1, j) := if_pos hk
    (repeat refine gp_gc [22, 66, 72, 244] od_Rf_aLine rfl rfl ?_)
    refine gb1_ne_f rfl ?_
    (repeat refine gp_gc [22, 66, 72, 244] od_Rf_aLine rfl rfl ?_)
    refine gy_bad (d := d + 39) S (fun W hW k1 k2 => ?_)
    (repeat refine gp_gc [22, 66, 72, 244] od_Rf_aLine rfl rfl ?_)
    exact And.intro (Or.inl rfl) (h0 W 1 j el (gy_QR (hW 0)) k1 k2)
  rw [e35] at c1 c2
  have c1 : nI 7 ≤ nI (gx_rt (gx_kd tp n j)) := c1
  have c2 : nI (gx_rt (gx_kd tp n j)) ≤ nI 11 := c2
  have hk := (gx_rt_5 hb).mp ⟨(nI_leI (by omega) (by omega)).mp c1, (nI_leI (by omega) (by omega)).mp c2⟩
  have et : gx_rt (gx_kd tp n j) = gx_kd tp n j + 7 := if_pos hk
  have el0 : gy_line (gx_kd tp n) (gx_nu tp n) D j = (if D.1 = 16 ∨ (gx_kd tp n j = 2 ∧ D.2.2.2.2.1 = true) ∨ (gx_kd tp n j = 4 ∧ D.2.2.2.2.2.2.isSome = true) then .inl (3, j) else gy_semi (gx_kd tp n) (gy_body (gx_kd tp n) (gx_nu tp n) D j)) := if_neg (by omega)
  have k22 : gp_Go l G (d + 40) m_Rf_aLine K 22 [some (.ref 95), some (.int (nI (gx_kd tp n j + 7))), none] [] (gv w u q) 0 0 := by
    refine gp_go od_Rf_aLine rfl ?_
    (repeat refine gp_gc [22, 66, 72, 244] od_Rf_aLine rfl rfl ?_)
    refine And.intro i6 ?_
    (repeat refine gp_gc [22, 66, 72, 244] od_Rf_aLine rfl rfl ?_)
    by_cases bL : D.1 = 16
    · refine gb_eq_t (show w 111 6 = nI 16 by rw [d1, bL]) ?_
      exact k66 _ (el0.trans (if_pos (Or.inl bL)))
    refine gb_eq_f (show ¬ w 111 6 = nI 16 by rw [d1]; exact fun z => bL ((nI_eq (by omega) (by omega)).mp z)) ?_
    (repeat refine gp_gc [22, 66, 72, 244] od_Rf_aLine rfl rfl ?_)
    rcases (show gx_kd tp n j = 0 ∨ gx_kd tp n j = 1 ∨ gx_kd tp n j = 2 ∨ gx_kd tp n j = 3 ∨ gx_kd tp n j = 4 by omega) with hj | hj | hj | hj | hj
    · rw [hj]
      refine gb_ne_t (by decide) ?_
      (repeat refine gp_gc [22, 66, 72, 244] od_Rf_aLine rfl rfl ?_)
      refine gb_ne_t (by decide) ?_
      exact k72_0 hj (el0.trans (if_neg (by omega))) bL
    · rw [hj]
      refine gb_ne_t (by decide) ?_
      (repeat refine gp_gc [22, 66, 72, 244] od_Rf_aLine rfl rfl ?_)
      refine gb_ne_t (by decide) ?_
      exact k72_1 hj (el0.trans (if_neg (by omega))) bL
    · rw [hj]
      refine gb_ne_f rfl ?_
      (repeat refine gp_gc [22, 66, 72, 244] od_Rf_aLine rfl rfl ?_)
      refine And.intro i6 ?_
      (repeat refine gp_gc [22, 66, 72, 244] od_Rf_aLine rfl rfl ?_)
      by_cases bt : D.2.2.2.2.1 = true
      · refine gb1_ne_t (show ¬ w 121 6 = 0 by rw [d6, if_pos bt]; decide) ?_
        exact k66 _ (el0.trans (if_pos (Or.inr (Or.inl ⟨hj, bt⟩))))
      · refine gb1_ne_f (show w 121 6 = 0 by rw [d6, if_neg bt]) ?_
        (repeat refine gp_gc [22, 66, 72, 244] od_Rf_aLine rfl rfl ?_)
        refine gb_ne_t (by decide) ?_
        exact k72_2 hj (el0.trans (if_neg (by rintro (z | z | z); exact bL z; exact bt z.2; omega))) bL
    · rw [hj]
      refine gb_ne_t (by decide) ?_
      (repeat refine gp_gc [22, 66, 72, 244] od_Rf_aLine rfl rfl ?_)
      refine gb_ne_t (by decide) ?_
      exact k72_3 hj (el0.trans (if_neg (by omega))) bL
    · rw [hj]
      refine gb_ne_t (by decide) ?_
      (repeat refine gp_gc [22, 66, 72, 244] od_Rf_aLine rfl rfl ?_)
      refine gb_ne_f rfl ?_
      (repeat refine gp_gc [22, 66, 72, 244] od_Rf_aLine rfl rfl ?_)
      refine And.intro i6 ?_
      (repeat refine gp_gc [22, 66, 72, 244] od_Rf_aLine rfl rfl ?_)
      cases eT : D.2.2.2.2.2.2 with
      | none =>
        rw [eT] at d10
        refine gb1_eq_t (show w 122 6 = 0 from d10) ?_
        exact k72_4 hj (el0.trans (if_neg (by rintro (z | z | z); exact bL z; omega; rw [eT] at z; exact absurd z.2 (by decide)))) bL
      | some L0 =>
        rw [eT] at d10
        refine gb1_eq_f (show ¬ w 122 6 = 0 by rw [d10.1]; decide) ?_
        (repeat refine gp_gc [22, 66, 72, 244] od_Rf_aLine rfl rfl ?_)
        exact k66 _ (el0.trans (if_pos (Or.inr (Or.inr ⟨hj, by rw [eT]; rfl⟩))))
  (repeat refine gp_gc [22, 66, 72, 244] od_Rf_aLine rfl rfl ?_)
  refine gb1_ne_t (by decide) ?_
  rw [e35, et]
  exact k22
end

end
