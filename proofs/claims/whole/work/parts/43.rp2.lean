section
variable {l : Launch} {G : gp_G} {d : Nat} {w : Nat → Nat → Int32} {u : Int64 × (Nat → Int64)} {q : Nat → Nat} {K : Option Value → gp_H → Prop}
/-! ===== the reference's methods: sums and conditions ===== -/
theorem gy_T_g {kd nm : Nat → Nat} : ∀ (f j : Nat) (L : gf_L) (j' : Nat) (L' : gf_L), gy_T kd nm f j L = .inr (j', L') → j ≤ j' ∧ L'.length + j ≤ L.length + j' ∧ (j < j' → kd (j' - 1) ≠ 31)
  | 0, j, L, j', L', h => by
    simp only [gy_T, Sum.inr.injEq, Prod.mk.injEq] at h
    obtain ⟨rfl, rfl⟩ := h
    exact ⟨by omega, by omega, fun z => by omega⟩
  | f + 1, j, L, j', L', h => by
    unfold gy_T at h
    split at h
    · split at h
      · simp at h
      · rename_i j1 U e1
        have g1 := gy_unit_g kd nm _ _ _ e1
        have := gy_T_g f j1 _ j' L' h
        simp only [List.length_append, List.length_cons, List.length_nil] at this
        refine ⟨by omega, by omega, fun _ => ?_⟩
        by_cases e : j1 < j'
        · exact this.2.2 e
        · rw [show j' = j1 by omega]; exact g1.2.2
    · split at h
      · split at h
        · split at h
          · simp at h
          · rename_i c1 c2 c3
            have := gy_T_g f (j + 2) _ j' L' h
            simp only [List.length_append, List.length_cons, List.length_nil] at this
            refine ⟨by omega, by omega, fun _ => ?_⟩
            by_cases e : j + 2 < j'
            · exact this.2.2 e
            · rw [show j' - 1 = j + 1 by omega]; omega
        · simp at h
      · simp only [Sum.inr.injEq, Prod.mk.injEq] at h
        obtain ⟨rfl, rfl⟩ := h
        exact ⟨by omega, by omega, fun z => by omega⟩
theorem gy_P_g (kd nm : Nat → Nat) : gy_G kd (gy_P kd nm) := by
  intro j j' L h
  unfold gy_P at h
  split at h
  · simp at h
  · rename_i j1 U e1
    have g1 := gy_unit_g kd nm _ _ _ e1
    have g2 := gy_T_g _ _ _ _ _ h
    refine ⟨by omega, by omega, ?_⟩
    by_cases e : j1 < j'
    · exact g2.2.2 e
    · rw [show j' = j1 by omega]; exact g1.2.2
theorem gy_EL_g {kd nm : Nat → Nat} : ∀ (f j : Nat) (L : gf_L) (j' : Nat) (L' : gf_L), gy_EL kd nm f j L = .inr (j', L') → j ≤ j' ∧ L'.length + j ≤ L.length + j' ∧ (j < j' → kd (j' - 1) ≠ 31)
  | 0, j, L, j', L', h => by
    simp only [gy_EL, Sum.inr.injEq, Prod.mk.injEq] at h
    obtain ⟨rfl, rfl⟩ := h
    exact ⟨by omega, by omega, fun z => by omega⟩
  | f + 1, j, L, j', L', h => by
    unfold gy_EL at h
    split at h
    · split at h
      · simp at h
      · rename_i j1 U e1
        have g1 := gy_P_g kd nm _ _ _ e1
        have := gy_EL_g f j1 _ j' L' h
        simp only [List.length_append, List.length_cons, List.length_nil] at this
        refine ⟨by omega, by omega, fun _ => ?_⟩
        by_cases e : j1 < j'
        · exact this.2.2 e
        · rw [show j' = j1 by omega]; exact g1.2.2
    · simp only [Sum.inr.injEq, Prod.mk.injEq] at h
      obtain ⟨rfl, rfl⟩ := h
      exact ⟨by omega, by omega, fun z => by omega⟩
theorem gy_E_g (kd nm : Nat → Nat) : gy_G kd (gy_E kd nm) := by
  intro j j' L h
  unfold gy_E at h
  split at h
  · simp at h
  · rename_i j1 U e1
    have g1 := gy_P_g kd nm _ _ _ e1
    have g2 := gy_EL_g _ _ _ _ _ h
    refine ⟨by omega, by omega, ?_⟩
    by_cases e : j1 < j'
    · exact g2.2.2 e
    · rw [show j' = j1 by omega]; exact g1.2.2
theorem gy_L_g {kd : Nat → Nat} {sub : Nat → gy} (hs : gy_G kd sub) {k op : Nat} : ∀ (f j : Nat) (L : gf_L) (j' : Nat) (L' : gf_L), gy_L kd sub k op f j L = .inr (j', L') → j ≤ j' ∧ L'.length + j ≤ L.length + j' ∧ (j < j' → kd (j' - 1) ≠ 31)
  | 0, j, L, j', L', h => by
    simp only [gy_L, Sum.inr.injEq, Prod.mk.injEq] at h
    obtain ⟨rfl, rfl⟩ := h
    exact ⟨by omega, by omega, fun z => by omega⟩
  | f + 1, j, L, j', L', h => by
    unfold gy_L at h
    split at h
    · split at h
      · simp at h
      · rename_i j1 U e1
        have g1 := hs _ _ _ e1
        have := gy_L_g hs f j1 _ j' L' h
        simp only [List.length_append, List.length_cons, List.length_nil] at this
        refine ⟨by omega, by omega, fun _ => ?_⟩
        by_cases e : j1 < j'
        · exact this.2.2 e
        · rw [show j' = j1 by omega]; exact g1.2.2
    · simp only [Sum.inr.injEq, Prod.mk.injEq] at h
      obtain ⟨rfl, rfl⟩ := h
      exact ⟨by omega, by omega, fun z => by omega⟩
theorem gy_ev_g {kd : Nat → Nat} {one : Nat → gy} (hs : gy_G kd one) : gy_G kd (gy_ev kd one) := by
  intro j j' L h
  unfold gy_ev at h
  split at h
  · simp at h
  · rename_i j1 U e1
    have g1 := hs _ _ _ e1
    have g2 := gy_L_g hs _ _ _ _ _ h
    refine ⟨by omega, by omega, ?_⟩
    by_cases e : j1 < j'
    · exact g2.2.2 e
    · rw [show j' = j1 by omega]; exact g1.2.2
theorem gy_an_g {kd : Nat → Nat} {one : Nat → gy} (hs : gy_G kd one) : gy_G kd (gy_an kd one) := by
  intro j j' L h
  unfold gy_an at h
  split at h
  · simp at h
  · rename_i j1 U e1
    have g1 := gy_ev_g hs _ _ _ e1
    have g2 := gy_L_g (gy_ev_g hs) _ _ _ _ _ h
    refine ⟨by omega, by omega, ?_⟩
    by_cases e : j1 < j'
    · exact g2.2.2 e
    · rw [show j' = j1 by omega]; exact g1.2.2
theorem gy_cmp_g (kd nm : Nat → Nat) : gy_G kd (gy_cmp kd nm) := by
  intro j j' L h
  unfold gy_cmp at h
  split at h
  · simp at h
  · rename_i j1 U e1
    have g1 := gy_E_g kd nm _ _ _ e1
    split at h
    · split at h
      · simp at h
      · rename_i j2 V e2
        have g2 := gy_E_g kd nm _ _ _ e2
        simp only [Sum.inr.injEq, Prod.mk.injEq] at h
        obtain ⟨rfl, rfl⟩ := h
        simp only [List.length_append, List.length_cons, List.length_nil]
        exact ⟨by omega, by omega, g2.2.2⟩
    · simp at h
theorem gy_one_g (kd nm : Nat → Nat) : ∀ h, gy_G kd (gy_one kd nm h)
  | 0 => by
    intro j j' L h
    unfold gy_one at h
    split at h
    · simp at h
    · exact gy_cmp_g kd nm _ _ _ h
  | m + 1 => by
    intro j j' L h
    unfold gy_one at h
    split at h
    · split at h
      · simp at h
      · rename_i j1 U e1
        have g1 := gy_one_g kd nm m _ _ _ e1
        simp only [Sum.inr.injEq, Prod.mk.injEq] at h
        obtain ⟨rfl, rfl⟩ := h
        simp only [List.length_append, List.length_cons, List.length_nil]
        exact ⟨by omega, by omega, g1.2.2⟩
    · split at h
      · split at h
        · simp at h
        · rename_i j1 U e1
          have g1 := gy_an_g (gy_one_g kd nm m) _ _ _ e1
          split at h
          · rename_i c1
            simp only [Sum.inr.injEq, Prod.mk.injEq] at h
            obtain ⟨rfl, rfl⟩ := h
            exact ⟨by omega, by omega, by rw [Nat.add_sub_cancel]; omega⟩
          · simp at h
      · exact gy_cmp_g kd nm _ _ _ h
/-- what was laid so far, and one piece with an operator more -/
theorem gf_seg_3 {w W X : Nat → Nat → Int32} {c e : Nat} {L U : gf_L} {op : Nat} {v : Int32} (h1 : gf_seg (w 117) 6 c L) (r1 : gy_R w W (c + L.length)) (h2 : gf_seg (W 117) 6 (c + L.length) U) (r2 : gy_R W X (c + L.length + U.length)) (k1 : X 117 (6120 + 2 * (c + L.length + U.length)) = nI op) (k2 : X 117 (6120 + 2 * (c + L.length + U.length) + 1) = v) (ho : op < 24) : gf_seg (X 117) 6 c (L ++ U ++ [(op, v)]) := by
  refine gf_seg_app (gf_seg_app ?_ ?_) ?_
  · exact gf_seg_cg (fun x hx => (r2.2.2 x (by omega)).trans (r1.2.2 x hx)) (Nat.le_refl _) h1
  · exact gf_seg_cg r2.2.2 (Nat.le_refl _) h2
  · rw [List.length_append, ← Nat.add_assoc]
    exact gf_seg_1 k1 k2 ho
theorem gy_len3 (L U : gf_L) (op : Nat) (v : Int32) (c : Nat) : c + (L ++ U ++ [(op, v)]).length = c + L.length + U.length + 1 := by
  simp only [List.length_append, List.length_cons, List.length_nil]
  omega
section
variable {tp : Nat → Nat} {n : Nat} {dp : Int32}
set_option maxRecDepth 100000 in
theorem gy_sproduct : gy_C l G tp n u q dp m_Rf_product (d + 10) (gy_P (gx_kd tp n) (gx_nu tp n)) := by
  intro w j c K T S hc h1 h0
  have hn := T.2.1
  have main : ∀ (f j : Nat) (W : Nat → Nat → Int32) (L : gf_L), 600 ≤ f + j → gy_R w W c → gy_S tp n W j (c + L.length) dp → gf_seg (W 117) 6 c L → c + L.length ≤ j → gy_K1 tp n u q w c dp K (gy_T (gx_kd tp n) (gx_nu tp n) f j L) → gy_K0 tp n u q w c K (gy_T (gx_kd tp n) (gx_nu tp n) f j L) → gp_Go l G (d + 10) m_Rf_product K 9 [some (.ref 95), none, none] [] (gv W u q) 0 0 := by
    intro f
    induction f with
    | zero =>
      intro j W L hf R S seg hc h1 h0
      have hk : gx_kd tp n j = 31 := by
        by_cases e : gx_kd tp n j = 31
        · exact e
        · have := gx_j_n e
          omega
      have t1 := gy_tk S (k := 42) (by decide)
      have t2 := gy_tk S (k := 47) (by decide)
      refine gp_go od_Rf_product rfl ?_
      (repeat refine gp_gc [9] od_Rf_product rfl rfl ?_)
      refine gb_eq_f (fun z => absurd (t1.mp z) (by omega)) ?_
      (repeat refine gp_gc [9] od_Rf_product rfl rfl ?_)
      refine gb_ne_t (fun z => absurd (t2.mp z) (by omega)) ?_
      (repeat refine gp_gc [9] od_Rf_product rfl rfl ?_)
      exact And.intro (Or.inr rfl) (h1 W j L rfl R S seg)
    | succ f ih =>
      intro j W L hf R S seg hc h1 h0
      have TW := gy_RT R T
      have t1 := gy_tk S (k := 42) (by decide)
      have t2 := gy_tk S (k := 47) (by decide)
      by_cases b1 : gx_kd tp n j = 42
      · have hj : j < n := gx_j_n (tp := tp) (by omega)
        refine gp_go od_Rf_product rfl ?_
        (repeat refine gp_gc [9] od_Rf_product rfl rfl ?_)
        refine gb_eq_t (t1.mpr b1) ?_
        (repeat refine gp_gc [9] od_Rf_product rfl rfl ?_)
        refine gb_ne_t (fun z => absurd (t2.mp z) (by omega)) ?_
        (repeat refine gp_gc [9] od_Rf_product rfl rfl ?_)
        refine gy_next (d := d + 1) TW S (fun W1 hW1 S1 => ?_)
        (repeat refine gp_gc [9] od_Rf_product rfl rfl ?_)
        refine gb1_eq_t rfl ?_
        (repeat refine gp_gc [9] od_Rf_product rfl rfl ?_)
        refine gy_sunit (d := d) W1 (j + 1) (c + L.length) _ (gy_RT (hW1 0) TW) S1 (by omega) ?_ ?_
        · intro W2 j2 U er R2 S2 seg2
          have g := gy_unit_g _ _ _ _ _ er
          have hj2 := gx_j_n g.2.2
          (repeat refine gp_gc [9] od_Rf_product rfl rfl ?_)
          refine gb1_ne_t (by decide) ?_
          (repeat refine gp_gc [9] od_Rf_product rfl rfl ?_)
          refine gy_lay (d := d + 9) S2 (by omega) (fun W3 R3 S3 k1 k2 => ?_)
          (repeat refine gp_gc [9] od_Rf_product rfl rfl ?_)
          refine gp_drop 1 ?_
          have e3 : gy_T (gx_kd tp n) (gx_nu tp n) (f + 1) j L = gy_T (gx_kd tp n) (gx_nu tp n) f j2 (L ++ U ++ [(16, 0)]) := by
            show (if gx_kd tp n j = 42 then _ else _) = _
            rw [if_pos b1, er]
          rw [e3] at h1 h0
          have sg := gf_seg_3 (e := 0) (op := 16) (v := 0) (gf_seg_cg (hW1 (c + L.length)).2.2 (Nat.le_refl _) seg) R2 seg2 R3 k1 k2 (by decide)
          have ln := gy_len3 L U 16 0 c
          refine ih j2 W3 (L ++ U ++ [(16, 0)]) (by omega) (gy_trans (gy_trans (gy_trans R (hW1 c) (Nat.le_refl _)) R2 (by omega)) R3 (by omega)) (by rw [ln]; exact S3) sg (by rw [ln]; omega) h1 h0
        · intro W2 e p er R2 k1 k2
          have e3 : gy_T (gx_kd tp n) (gx_nu tp n) (f + 1) j L = .inl (e, p) := by
            show (if gx_kd tp n j = 42 then _ else _) = _
            rw [if_pos b1, er]
          (repeat refine gp_gc [9] od_Rf_product rfl rfl ?_)
          refine gb1_ne_f rfl ?_
          (repeat refine gp_gc [9] od_Rf_product rfl rfl ?_)
          exact And.intro (Or.inl rfl) (h0 W2 e p e3 (gy_trans (gy_trans R (hW1 c) (Nat.le_refl _)) R2 (by omega)) k1 k2)
      by_cases b2 : gx_kd tp n j = 47
      · have hj : j < n := gx_j_n (tp := tp) (by omega)
        refine gp_go od_Rf_product rfl ?_
        (repeat refine gp_gc [9] od_Rf_product rfl rfl ?_)
        refine gb_eq_f (fun z => b1 (t1.mp z)) ?_
        (repeat refine gp_gc [9] od_Rf_product rfl rfl ?_)
        refine gb_ne_f (t2.mpr b2) ?_
        (repeat refine gp_gc [9] od_Rf_product rfl rfl ?_)
        refine gb_ne_f (t2.mpr b2) ?_
        (repeat refine gp_gc [9] od_Rf_product rfl rfl ?_)
        refine gy_next (d := d + 1) TW S (fun W1 hW1 S1 => ?_)
        (repeat refine gp_gc [9] od_Rf_product rfl rfl ?_)
        refine gb1_eq_f (by decide) ?_
        (repeat refine gp_gc [9] od_Rf_product rfl rfl ?_)
        refine gy_number (d := d) (A := 1) (B := 9999) rfl rfl (by decide) (by decide) (gy_RT (hW1 0) TW) S1 (fun c1 c2 c3 W2 hW2 S2 => ?_) (fun W2 e hc2 hW2 k1 k2 => ?_)
        · have ev := S1.2.2.2.1 c1
          have hj1 : j + 1 < n := gx_j_n (tp := tp) (by omega)
          (repeat refine gp_gc [9] od_Rf_product rfl rfl ?_)
          refine gb1_ne_t (by decide) ?_
          (repeat refine gp_gc [9] od_Rf_product rfl rfl ?_)
          refine gy_lay (d := d + 9) S2 (by omega) (fun W3 R3 S3 k1 k2 => ?_)
          (repeat refine gp_gc [9] od_Rf_product rfl rfl ?_)
          refine gp_drop 1 (gp_drop 2 ?_)
          have e3 : gy_T (gx_kd tp n) (gx_nu tp n) (f + 1) j L = gy_T (gx_kd tp n) (gx_nu tp n) f (j + 2) (L ++ [(17, nI (gx_nu tp n (j + 1)))]) := by
            show (if gx_kd tp n j = 42 then _ else if gx_kd tp n j = 47 then (if gx_kd tp n (j + 1) = 30 then (if gx_nu tp n (j + 1) = 0 then _ else _) else _) else _) = _
            rw [if_neg b1, if_pos b2, if_pos c1, if_neg (by omega)]
          rw [e3] at h1 h0
          have sg := gf_seg_app (B := [(17, nI (gx_nu tp n (j + 1)))]) (gf_seg_cg (fun x hx => (R3.2.2 x hx).trans ((hW2 (c + L.length)).2.2 x hx)) (Nat.le_refl _) (gf_seg_cg (hW1 (c + L.length)).2.2 (Nat.le_refl _) seg)) (gf_seg_1 k1 (k2.trans ev) (by decide))
          have ln : c + (L ++ [(17, nI (gx_nu tp n (j + 1)))]).length = c + L.length + 1 := by simp [Nat.add_assoc]
          refine ih (j + 2) W3 (L ++ [(17, nI (gx_nu tp n (j + 1)))]) (by omega) (gy_trans (gy_trans (gy_trans R (hW1 c) (Nat.le_refl _)) (hW2 c) (Nat.le_refl _)) R3 (by omega)) (by rw [ln]; exact S3) sg (by rw [ln]; omega) h1 h0
        · have e3 : gy_T (gx_kd tp n) (gx_nu tp n) (f + 1) j L = .inl (e, j + 1) := by
            show (if gx_kd tp n j = 42 then _ else if gx_kd tp n j = 47 then (if gx_kd tp n (j + 1) = 30 then (if gx_nu tp n (j + 1) = 0 then _ else _) else _) else _) = _
            rw [if_neg b1, if_pos b2]
            rcases hc2 with ⟨z1, rfl⟩ | ⟨z1, z2, rfl⟩
            · rw [if_neg z1]
            · have := gx_nu_b z1
              rw [if_pos z1, if_pos (by omega)]
          (repeat refine gp_gc [9] od_Rf_product rfl rfl ?_)
          refine gb1_ne_f rfl ?_
          (repeat refine gp_gc [9] od_Rf_product rfl rfl ?_)
          exact And.intro (Or.inl rfl) (h0 W2 e (j + 1) e3 (gy_trans (gy_trans R (hW1 c) (Nat.le_refl _)) (hW2 c) (Nat.le_refl _)) k1 k2)
      · have e3 : gy_T (gx_kd tp n) (gx_nu tp n) (f + 1) j L = .inr (j, L) := by
          show (if gx_kd tp n j = 42 then _ else if gx_kd tp n j = 47 then _ else _) = _
          rw [if_neg b1, if_neg b2]
        refine gp_go od_Rf_product rfl ?_
        (repeat refine gp_gc [9] od_Rf_product rfl rfl ?_)
        refine gb_eq_f (fun z => b1 (t1.mp z)) ?_
        (repeat refine gp_gc [9] od_Rf_product rfl rfl ?_)
        refine gb_ne_t (fun z => b2 (t2.mp z)) ?_
        (repeat refine gp_gc [9] od_Rf_product rfl rfl ?_)
        exact And.intro (Or.inr rfl) (h1 W j L e3 R S seg)
  refine gp_enter od_Rf_product rfl ?_
  (repeat refine gp_gc [9] od_Rf_product rfl rfl ?_)
  refine gy_sunit (d := d) w j c _ T S hc ?_ ?_
  · intro W1 j1 U er R1 S1 seg1
    have g := gy_unit_g _ _ _ _ _ er
    have hj1 := gx_j_n g.2.2
    have e3 : gy_P (gx_kd tp n) (gx_nu tp n) j = gy_T (gx_kd tp n) (gx_nu tp n) (600 - j1) j1 U := by
      unfold gy_P
      rw [er]
    rw [e3] at h1 h0
    (repeat refine gp_gc [9] od_Rf_product rfl rfl ?_)
    refine gb1_ne_t (by decide) ?_
    exact main (600 - j1) j1 W1 U (by omega) R1 S1 seg1 (by omega) h1 h0
  · intro W1 e p er R1 k1 k2
    have e3 : gy_P (gx_kd tp n) (gx_nu tp n) j = .inl (e, p) := by
      unfold gy_P
      rw [er]
    (repeat refine gp_gc [9] od_Rf_product rfl rfl ?_)
    refine gb1_ne_f rfl ?_
    (repeat refine gp_gc [9] od_Rf_product rfl rfl ?_)
    exact And.intro (Or.inl rfl) (h0 W1 e p e3 R1 k1 k2)
set_option maxRecDepth 100000 in
theorem gy_ssumUp : gy_C l G tp n u q dp m_Rf_sumUp (d + 11) (gy_E (gx_kd tp n) (gx_nu tp n)) := by
  intro w j c K T S hc h1 h0
  have hn := T.2.1
  have main : ∀ (f j : Nat) (W : Nat → Nat → Int32) (L : gf_L), 600 ≤ f + j → gy_R w W c → gy_S tp n W j (c + L.length) dp → gf_seg (W 117) 6 c L → c + L.length ≤ j → gy_K1 tp n u q w c dp K (gy_EL (gx_kd tp n) (gx_nu tp n) f j L) → gy_K0 tp n u q w c K (gy_EL (gx_kd tp n) (gx_nu tp n) f j L) → gp_Go l G (d + 11) m_Rf_sumUp K 9 [some (.ref 95), none] [] (gv W u q) 0 0 := by
    intro f
    induction f with
    | zero =>
      intro j W L hf R S seg hc h1 h0
      have hk : gx_kd tp n j = 31 := by
        by_cases e : gx_kd tp n j = 31
        · exact e
        · have := gx_j_n e
          omega
      have t1 := gy_tk S (k := 43) (by decide)
      have t2 := gy_tk S (k := 45) (by decide)
      refine gp_go od_Rf_sumUp rfl ?_
      (repeat refine gp_gc [9] od_Rf_sumUp rfl rfl ?_)
      refine gb_eq_f (fun z => absurd (t1.mp z) (by omega)) ?_
      (repeat refine gp_gc [9] od_Rf_sumUp rfl rfl ?_)
      refine gb_ne_t (fun z => absurd (t2.mp z) (by omega)) ?_
      (repeat refine gp_gc [9] od_Rf_sumUp rfl rfl ?_)
      exact And.intro (Or.inr rfl) (h1 W j L rfl R S seg)
    | succ f ih =>
      intro j W L hf R S seg hc h1 h0
      have TW := gy_RT R T
      have t1 := gy_tk S (k := 43) (by decide)
      have t2 := gy_tk S (k := 45) (by decide)
      by_cases b : gx_kd tp n j = 43 ∨ gx_kd tp n j = 45
      · have hj : j < n := gx_j_n (tp := tp) (by omega)
        have k47 : ∀ (op : Nat), op < 24 → op = (if gx_kd tp n j = 43 then 14 else 15) → gp_Go l G (d + 11) m_Rf_sumUp K 47 [some (.ref 95), some (.int (nI op))] [] (gv W u q) 0 0 := by
          intro op ho eo
          refine gp_go od_Rf_sumUp rfl ?_
          (repeat refine gp_gc [9, 47] od_Rf_sumUp rfl rfl ?_)
          refine gy_next (d := d + 2) TW S (fun W1 hW1 S1 => ?_)
          (repeat refine gp_gc [9, 47] od_Rf_sumUp rfl rfl ?_)
          refine gy_sproduct (d := d) W1 (j + 1) (c + L.length) _ (gy_RT (hW1 0) TW) S1 (by omega) ?_ ?_
          · intro W2 j2 U er R2 S2 seg2
            have g := gy_P_g _ _ _ _ _ er
            have hj2 := gx_j_n g.2.2
            (repeat refine gp_gc [9, 47] od_Rf_sumUp rfl rfl ?_)
            refine gb1_ne_t (by decide) ?_
            (repeat refine gp_gc [9, 47] od_Rf_sumUp rfl rfl ?_)
            refine gy_lay (d := d + 10) S2 (by omega) (fun W3 R3 S3 k1 k2 => ?_)
            (repeat refine gp_gc [9, 47] od_Rf_sumUp rfl rfl ?_)
            refine gp_drop 1 ?_
            have e3 : gy_EL (gx_kd tp n) (gx_nu tp n) (f + 1) j L = gy_EL (gx_kd tp n) (gx_nu tp n) f j2 (L ++ U ++ [(op, 0)]) := by
              show (if gx_kd tp n j = 43 ∨ gx_kd tp n j = 45 then _ else _) = _
              rw [if_pos b, er, eo]
            rw [e3] at h1 h0
            have sg := gf_seg_3 (e := 0) (op := op) (v := 0) (gf_seg_cg (hW1 (c + L.length)).2.2 (Nat.le_refl _) seg) R2 seg2 R3 k1 k2 ho
            have ln := gy_len3 L U op 0 c
            refine ih j2 W3 (L ++ U ++ [(op, 0)]) (by omega) (gy_trans (gy_trans (gy_trans R (hW1 c) (Nat.le_refl _)) R2 (by omega)) R3 (by omega)) (by rw [ln]; exact S3) sg (by rw [ln]; omega) h1 h0
          · intro W2 e p er R2 k1 k2
            have e3 : gy_EL (gx_kd tp n) (gx_nu tp n) (f + 1) j L = .inl (e, p) := by
              show (if gx_kd tp n j = 43 ∨ gx_kd tp n j = 45 then _ else _) = _
              rw [if_pos b, er]
            (repeat refine gp_gc [9, 47] od_Rf_sumUp rfl rfl ?_)
            refine gb1_ne_f rfl ?_
            (repeat refine gp_gc [9, 47] od_Rf_sumUp rfl rfl ?_)
            exact And.intro (Or.inl rfl) (h0 W2 e p e3 (gy_trans (gy_trans R (hW1 c) (Nat.le_refl _)) R2 (by omega)) k1 k2)
        refine gp_go od_Rf_sumUp rfl ?_
        (repeat refine gp_gc [9, 47] od_Rf_sumUp rfl rfl ?_)
        by_cases b1 : gx_kd tp n j = 43
        · refine gb_eq_t (t1.mpr b1) ?_
          (repeat refine gp_gc [9, 47] od_Rf_sumUp rfl rfl ?_)
          refine gb_ne_f (t1.mpr b1) ?_
          (repeat refine gp_gc [9, 47] od_Rf_sumUp rfl rfl ?_)
          exact k47 14 (by decide) (if_pos b1).symm
        · refine gb_eq_f (fun z => b1 (t1.mp z)) ?_
          (repeat refine gp_gc [9, 47] od_Rf_sumUp rfl rfl ?_)
          refine gb_ne_f (t2.mpr (by omega)) ?_
          (repeat refine gp_gc [9, 47] od_Rf_sumUp rfl rfl ?_)
          refine gb_ne_t (fun z => b1 (t1.mp z)) ?_
          (repeat refine gp_gc [9, 47] od_Rf_sumUp rfl rfl ?_)
          exact k47 15 (by decide) (if_neg b1).symm
      · have e3 : gy_EL (gx_kd tp n) (gx_nu tp n) (f + 1) j L = .inr (j, L) := by
          show (if gx_kd tp n j = 43 ∨ gx_kd tp n j = 45 then _ else _) = _
          rw [if_neg b]
        refine gp_go od_Rf_sumUp rfl ?_
        (repeat refine gp_gc [9] od_Rf_sumUp rfl rfl ?_)
        refine gb_eq_f (fun z => b (Or.inl (t1.mp z))) ?_
        (repeat refine gp_gc [9] od_Rf_sumUp rfl rfl ?_)
        refine gb_ne_t (fun z => b (Or.inr (t2.mp z))) ?_
        (repeat refine gp_gc [9] od_Rf_sumUp rfl rfl ?_)
        exact And.intro (Or.inr rfl) (h1 W j L e3 R S seg)
  refine gp_enter od_Rf_sumUp rfl ?_
  (repeat refine gp_gc [9] od_Rf_sumUp rfl rfl ?_)
  refine gy_sproduct (d := d) w j c _ T S hc ?_ ?_
  · intro W1 j1 U er R1 S1 seg1
    have g := gy_P_g _ _ _ _ _ er
    have hj1 := gx_j_n g.2.2
    have e3 : gy_E (gx_kd tp n) (gx_nu tp n) j = gy_EL (gx_kd tp n) (gx_nu tp n) (600 - j1) j1 U := by
      unfold gy_E
      rw [er]
    rw [e3] at h1 h0
    (repeat refine gp_gc [9] od_Rf_sumUp rfl rfl ?_)
    refine gb1_ne_t (by decide) ?_
    exact main (600 - j1) j1 W1 U (by omega) R1 S1 seg1 (by omega) h1 h0
  · intro W1 e p er R1 k1 k2
    have e3 : gy_E (gx_kd tp n) (gx_nu tp n) j = .inl (e, p) := by
      unfold gy_E
      rw [er]
    (repeat refine gp_gc [9] od_Rf_sumUp rfl rfl ?_)
    refine gb1_ne_f rfl ?_
    (repeat refine gp_gc [9] od_Rf_sumUp rfl rfl ?_)
    exact And.intro (Or.inl rfl) (h0 W1 e p e3 R1 k1 k2)
set_option maxRecDepth 100000 in
theorem gy_severy {one : Nat → gy} (hg : gy_G (gx_kd tp n) one) (hs : gy_C l G tp n u q dp m_Rf_one (d + 12) (one)) : gy_C l G tp n u q dp m_Rf_every (d + 12 + 1) (gy_ev (gx_kd tp n) one) := by
  intro w j c K T S hc h1 h0
  have hn := T.2.1
  have hsg : gy_G (gx_kd tp n) (one) := hg
  have main : ∀ (f j : Nat) (W : Nat → Nat → Int32) (L : gf_L), 600 ≤ f + j → gy_R w W c → gy_S tp n W j (c + L.length) dp → gf_seg (W 117) 6 c L → c + L.length ≤ j → gy_K1 tp n u q w c dp K (gy_L (gx_kd tp n) (one) 7 22 f j L) → gy_K0 tp n u q w c K (gy_L (gx_kd tp n) (one) 7 22 f j L) → gp_Go l G (d + 12 + 1) m_Rf_every K 9 [some (.ref 95)] [] (gv W u q) 0 0 := by
    intro f
    induction f with
    | zero =>
      intro j W L hf R S seg hc h1 h0
      have hk : gx_kd tp n j = 31 := by
        by_cases e : gx_kd tp n j = 31
        · exact e
        · have := gx_j_n e
          omega
      have t1 := gy_tk S (k := 7) (by decide)
      refine gp_go od_Rf_every rfl ?_
      (repeat refine gp_gc [9] od_Rf_every rfl rfl ?_)
      refine gb_ne_t (fun z => absurd (t1.mp z) (by omega)) ?_
      (repeat refine gp_gc [9] od_Rf_every rfl rfl ?_)
      exact And.intro (Or.inr rfl) (h1 W j L rfl R S seg)
    | succ f ih =>
      intro j W L hf R S seg hc h1 h0
      have TW := gy_RT R T
      have t1 := gy_tk S (k := 7) (by decide)
      by_cases b : gx_kd tp n j = 7
      · have hj : j < n := gx_j_n (tp := tp) (by omega)
        refine gp_go od_Rf_every rfl ?_
        (repeat refine gp_gc [9] od_Rf_every rfl rfl ?_)
        refine gb_ne_f (t1.mpr b) ?_
        (repeat refine gp_gc [9] od_Rf_every rfl rfl ?_)
        refine gy_next (d := d + 4) TW S (fun W1 hW1 S1 => ?_)
        (repeat refine gp_gc [9] od_Rf_every rfl rfl ?_)
        refine hs W1 (j + 1) (c + L.length) _ (gy_RT (hW1 0) TW) S1 (by omega) ?_ ?_
        · intro W2 j2 U er R2 S2 seg2
          have g := hsg _ _ _ er
          have hj2 := gx_j_n g.2.2
          (repeat refine gp_gc [9] od_Rf_every rfl rfl ?_)
          refine gb1_ne_t (by decide) ?_
          (repeat refine gp_gc [9] od_Rf_every rfl rfl ?_)
          refine gy_lay (d := d + 12) S2 (by omega) (fun W3 R3 S3 k1 k2 => ?_)
          (repeat refine gp_gc [9] od_Rf_every rfl rfl ?_)
          have e3 : gy_L (gx_kd tp n) (one) 7 22 (f + 1) j L = gy_L (gx_kd tp n) (one) 7 22 f j2 (L ++ U ++ [(22, 0)]) := by
            show (if gx_kd tp n j = 7 then _ else _) = _
            rw [if_pos b, er]
          rw [e3] at h1 h0
          have sg := gf_seg_3 (e := 0) (op := 22) (v := 0) (gf_seg_cg (hW1 (c + L.length)).2.2 (Nat.le_refl _) seg) R2 seg2 R3 k1 k2 (by decide)
          have ln := gy_len3 L U 22 0 c
          refine ih j2 W3 (L ++ U ++ [(22, 0)]) (by omega) (gy_trans (gy_trans (gy_trans R (hW1 c) (Nat.le_refl _)) R2 (by omega)) R3 (by omega)) (by rw [ln]; exact S3) sg (by rw [ln]; omega) h1 h0
        · intro W2 e p er R2 k1 k2
          have e3 : gy_L (gx_kd tp n) (one) 7 22 (f + 1) j L = .inl (e, p) := by
            show (if gx_kd tp n j = 7 then _ else _) = _
            rw [if_pos b, er]
          (repeat refine gp_gc [9] od_Rf_every rfl rfl ?_)
          refine gb1_ne_f rfl ?_
          (repeat refine gp_gc [9] od_Rf_every rfl rfl ?_)
          exact And.intro (Or.inl rfl) (h0 W2 e p e3 (gy_trans (gy_trans R (hW1 c) (Nat.le_refl _)) R2 (by omega)) k1 k2)
      · have e3 : gy_L (gx_kd tp n) (one) 7 22 (f + 1) j L = .inr (j, L) := by
          show (if gx_kd tp n j = 7 then _ else _) = _
          rw [if_neg b]
        refine gp_go od_Rf_every rfl ?_
        (repeat refine gp_gc [9] od_Rf_every rfl rfl ?_)
        refine gb_ne_t (fun z => b (t1.mp z)) ?_
        (repeat refine gp_gc [9] od_Rf_every rfl rfl ?_)
        exact And.intro (Or.inr rfl) (h1 W j L e3 R S seg)
  refine gp_enter od_Rf_every rfl ?_
  (repeat refine gp_gc [9] od_Rf_every rfl rfl ?_)
  refine hs w j c _ T S hc ?_ ?_
  · intro W1 j1 U er R1 S1 seg1
    have g := hsg _ _ _ er
    have hj1 := gx_j_n g.2.2
    have e3 : gy_ev (gx_kd tp n) one j = gy_L (gx_kd tp n) (one) 7 22 (600 - j1) j1 U := by
      unfold gy_ev
      rw [er]
    rw [e3] at h1 h0
    (repeat refine gp_gc [9] od_Rf_every rfl rfl ?_)
    refine gb1_ne_t (by decide) ?_
    exact main (600 - j1) j1 W1 U (by omega) R1 S1 seg1 (by omega) h1 h0
  · intro W1 e p er R1 k1 k2
    have e3 : gy_ev (gx_kd tp n) one j = .inl (e, p) := by
      unfold gy_ev
      rw [er]
    (repeat refine gp_gc [9] od_Rf_every rfl rfl ?_)
    refine gb1_ne_f rfl ?_
    (repeat refine gp_gc [9] od_Rf_every rfl rfl ?_)
    exact And.intro (Or.inl rfl) (h0 W1 e p e3 R1 k1 k2)
set_option maxRecDepth 100000 in
theorem gy_sany {one : Nat → gy} (hg : gy_G (gx_kd tp n) one) (hs : gy_C l G tp n u q dp m_Rf_every (d + 13) (gy_ev (gx_kd tp n) one)) : gy_C l G tp n u q dp m_Rf_any (d + 13 + 1) (gy_an (gx_kd tp n) one) := by
  intro w j c K T S hc h1 h0
  have hn := T.2.1
  have hsg : gy_G (gx_kd tp n) (gy_ev (gx_kd tp n) one) := gy_ev_g hg
  have main : ∀ (f j : Nat) (W : Nat → Nat → Int32) (L : gf_L), 600 ≤ f + j → gy_R w W c → gy_S tp n W j (c + L.length) dp → gf_seg (W 117) 6 c L → c + L.length ≤ j → gy_K1 tp n u q w c dp K (gy_L (gx_kd tp n) (gy_ev (gx_kd tp n) one) 6 23 f j L) → gy_K0 tp n u q w c K (gy_L (gx_kd tp n) (gy_ev (gx_kd tp n) one) 6 23 f j L) → gp_Go l G (d + 13 + 1) m_Rf_any K 9 [some (.ref 95)] [] (gv W u q) 0 0 := by
    intro f
    induction f with
    | zero =>
      intro j W L hf R S seg hc h1 h0
      have hk : gx_kd tp n j = 31 := by
        by_cases e : gx_kd tp n j = 31
        · exact e
        · have := gx_j_n e
          omega
      have t1 := gy_tk S (k := 6) (by decide)
      refine gp_go od_Rf_any rfl ?_
      (repeat refine gp_gc [9] od_Rf_any rfl rfl ?_)
      refine gb_ne_t (fun z => absurd (t1.mp z) (by omega)) ?_
      (repeat refine gp_gc [9] od_Rf_any rfl rfl ?_)
      exact And.intro (Or.inr rfl) (h1 W j L rfl R S seg)
    | succ f ih =>
      intro j W L hf R S seg hc h1 h0
      have TW := gy_RT R T
      have t1 := gy_tk S (k := 6) (by decide)
      by_cases b : gx_kd tp n j = 6
      · have hj : j < n := gx_j_n (tp := tp) (by omega)
        refine gp_go od_Rf_any rfl ?_
        (repeat refine gp_gc [9] od_Rf_any rfl rfl ?_)
        refine gb_ne_f (t1.mpr b) ?_
        (repeat refine gp_gc [9] od_Rf_any rfl rfl ?_)
        refine gy_next (d := d + 5) TW S (fun W1 hW1 S1 => ?_)
        (repeat refine gp_gc [9] od_Rf_any rfl rfl ?_)
        refine hs W1 (j + 1) (c + L.length) _ (gy_RT (hW1 0) TW) S1 (by omega) ?_ ?_
        · intro W2 j2 U er R2 S2 seg2
          have g := hsg _ _ _ er
          have hj2 := gx_j_n g.2.2
          (repeat refine gp_gc [9] od_Rf_any rfl rfl ?_)
          refine gb1_ne_t (by decide) ?_
          (repeat refine gp_gc [9] od_Rf_any rfl rfl ?_)
          refine gy_lay (d := d + 13) S2 (by omega) (fun W3 R3 S3 k1 k2 => ?_)
          (repeat refine gp_gc [9] od_Rf_any rfl rfl ?_)
          have e3 : gy_L (gx_kd tp n) (gy_ev (gx_kd tp n) one) 6 23 (f + 1) j L = gy_L (gx_kd tp n) (gy_ev (gx_kd tp n) one) 6 23 f j2 (L ++ U ++ [(23, 0)]) := by
            show (if gx_kd tp n j = 6 then _ else _) = _
            rw [if_pos b, er]
          rw [e3] at h1 h0
          have sg := gf_seg_3 (e := 0) (op := 23) (v := 0) (gf_seg_cg (hW1 (c + L.length)).2.2 (Nat.le_refl _) seg) R2 seg2 R3 k1 k2 (by decide)
          have ln := gy_len3 L U 23 0 c
          refine ih j2 W3 (L ++ U ++ [(23, 0)]) (by omega) (gy_trans (gy_trans (gy_trans R (hW1 c) (Nat.le_refl _)) R2 (by omega)) R3 (by omega)) (by rw [ln]; exact S3) sg (by rw [ln]; omega) h1 h0
        · intro W2 e p er R2 k1 k2
          have e3 : gy_L (gx_kd tp n) (gy_ev (gx_kd tp n) one) 6 23 (f + 1) j L = .inl (e, p) := by
            show (if gx_kd tp n j = 6 then _ else _) = _
            rw [if_pos b, er]
          (repeat refine gp_gc [9] od_Rf_any rfl rfl ?_)
          refine gb1_ne_f rfl ?_
          (repeat refine gp_gc [9] od_Rf_any rfl rfl ?_)
          exact And.intro (Or.inl rfl) (h0 W2 e p e3 (gy_trans (gy_trans R (hW1 c) (Nat.le_refl _)) R2 (by omega)) k1 k2)
      · have e3 : gy_L (gx_kd tp n) (gy_ev (gx_kd tp n) one) 6 23 (f + 1) j L = .inr (j, L) := by
          show (if gx_kd tp n j = 6 then _ else _) = _
          rw [if_neg b]
        refine gp_go od_Rf_any rfl ?_
        (repeat refine gp_gc [9] od_Rf_any rfl rfl ?_)
        refine gb_ne_t (fun z => b (t1.mp z)) ?_
        (repeat refine gp_gc [9] od_Rf_any rfl rfl ?_)
        exact And.intro (Or.inr rfl) (h1 W j L e3 R S seg)
  refine gp_enter od_Rf_any rfl ?_
  (repeat refine gp_gc [9] od_Rf_any rfl rfl ?_)
  refine hs w j c _ T S hc ?_ ?_
  · intro W1 j1 U er R1 S1 seg1
    have g := hsg _ _ _ er
    have hj1 := gx_j_n g.2.2
    have e3 : gy_an (gx_kd tp n) one j = gy_L (gx_kd tp n) (gy_ev (gx_kd tp n) one) 6 23 (600 - j1) j1 U := by
      unfold gy_an
      rw [er]
    rw [e3] at h1 h0
    (repeat refine gp_gc [9] od_Rf_any rfl rfl ?_)
    refine gb1_ne_t (by decide) ?_
    exact main (600 - j1) j1 W1 U (by omega) R1 S1 seg1 (by omega) h1 h0
  · intro W1 e p er R1 k1 k2
    have e3 : gy_an (gx_kd tp n) one j = .inl (e, p) := by
      unfold gy_an
      rw [er]
    (repeat refine gp_gc [9] od_Rf_any rfl rfl ?_)
    refine gb1_ne_f rfl ?_
    (repeat refine gp_gc [9] od_Rf_any rfl rfl ?_)
    exact And.intro (Or.inl rfl) (h0 W1 e p e3 R1 k1 k2)
end

end
