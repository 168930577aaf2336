section
variable {l : Launch} {G : gp_G} {d : Nat} {w : Nat → Nat → Int32} {u : Int64 × (Nat → Int64)} {q : Nat → Nat} {K : Option Value → gp_H → Prop}
/-! ===== the reference's methods: conditions with brackets ===== -/
section
variable {tp : Nat → Nat} {n : Nat} {dp : Int32}
set_option maxRecDepth 100000 in
theorem gy_opens {j c D : Nat} (hD : D ≤ 8) (T : gx_T w tp n) (S : gy_S tp n w j c (nI D)) (h1 : D < 8 → ∀ W, (∀ e, gy_R w W e) → gy_S tp n W (j + 1) c (nI (D + 1)) → K (some (.int 1)) (gv W u q)) (h0 : D = 8 → ∀ W, (∀ e, gy_R w W e) → W 95 38 = nI 3 → W 95 39 = nI (gx_sp tp n j) → K (some (.int 0)) (gv W u q)) : gp_Cal l G (d + 9) m_Rf_opens [.ref 95] (gv w u q) K := by
  have e41 := S.2.2.2.2.2.1
  refine gp_enter od_Rf_opens rfl ?_
  (repeat refine gp_gc [] od_Rf_opens rfl rfl ?_)
  by_cases b : D = 8
  · refine gb_ne_f (show w 95 41 = nI 8 by rw [e41, b]) ?_
    (repeat refine gp_gc [] od_Rf_opens rfl rfl ?_)
    refine gy_bad (d := d + 8) S (fun W hW k1 k2 => ?_)
    (repeat refine gp_gc [] od_Rf_opens rfl rfl ?_)
    exact And.intro (Or.inl rfl) (h0 b W hW k1 k2)
  · refine gb_ne_t (show ¬ w 95 41 = nI 8 by rw [e41]; exact fun z => b ((nI_eq (by omega) (by omega)).mp z)) ?_
    (repeat refine gp_gc [] od_Rf_opens rfl rfl ?_)
    have S' : gy_S tp n (gw w 95 41 (w 95 41 + nI 1)) j c (nI (D + 1)) := ⟨S.1, S.2.1, S.2.2.1, S.2.2.2.1, S.2.2.2.2.1, by show w 95 41 + nI 1 = _; rw [e41, nI_add], S.2.2.2.2.2.2⟩
    refine gy_next (d := d) (w := gw w 95 41 (w 95 41 + nI 1)) T S' (fun W hW S2 => ?_)
    (repeat refine gp_gc [] od_Rf_opens rfl rfl ?_)
    exact And.intro (Or.inr rfl) (h1 (by omega) W (fun e => gy_trans (gy_95 (gy_refl w e) rfl) (hW e) (Nat.le_refl e)) S2)
set_option maxRecDepth 100000 in
theorem gl_cmp {w : Nat → Nat → Int32} {j c : Nat} {K : Option Value → gp_H → Prop} (T : gx_T w tp n) (S : gy_S tp n w j c dp) (hc : c ≤ j) (h1 : gy_K1 tp n u q w c dp K (gy_cmp (gx_kd tp n) (gx_nu tp n) j)) (h0 : gy_K0 tp n u q w c K (gy_cmp (gx_kd tp n) (gx_nu tp n) j)) : gp_Go l G (d + 12) m_Rf_one K 92 [some (.ref 95), none] [] (gv w u q) 0 0 := by
  have hn := T.2.1
  refine gp_go od_Rf_one rfl ?_
  (repeat refine gp_gc [] od_Rf_one rfl rfl ?_)
  refine gy_ssumUp (d := d) w j c _ T S hc ?_ ?_
  rotate_left
  · intro W1 e p er R1 k1 k2
    have e3 : gy_cmp (gx_kd tp n) (gx_nu tp n) j = .inl (e, p) := by
      unfold gy_cmp
      rw [er]
    (repeat refine gp_gc [] od_Rf_one rfl rfl ?_)
    refine gb1_ne_f rfl ?_
    (repeat refine gp_gc [] od_Rf_one rfl rfl ?_)
    exact And.intro (Or.inl rfl) (h0 W1 e p e3 R1 k1 k2)
  intro W1 j1 U er R1 S1 seg1
  have g := gy_E_g _ _ _ _ _ er
  have hj1 := gx_j_n g.2.2
  have T1 := gy_RT R1 T
  have e4 : gy_cmp (gx_kd tp n) (gx_nu tp n) j = (if gx_kd tp n j1 = 60 ∨ gx_kd tp n j1 = 61 ∨ gx_kd tp n j1 = 62 then (match gy_E (gx_kd tp n) (gx_nu tp n) (j1 + 1) with
      | .inl e => .inl e
      | .inr (j2, V) => .inr (j2, U ++ V ++ [(gx_kd tp n j1 - 42, 0)]))
    else .inl (1, j1)) := by
    unfold gy_cmp
    rw [er]
    rfl
  have ta := gy_tk S1 (k := 60) (by decide)
  have tb := gy_tk S1 (k := 61) (by decide)
  have tc := gy_tk S1 (k := 62) (by decide)
  (repeat refine gp_gc [159] od_Rf_one rfl rfl ?_)
  refine gb1_ne_t (by decide) ?_
  (repeat refine gp_gc [159] od_Rf_one rfl rfl ?_)
  have k159 : ∀ op : Nat, op < 24 → op = gx_kd tp n j1 - 42 → (gx_kd tp n j1 = 60 ∨ gx_kd tp n j1 = 61 ∨ gx_kd tp n j1 = 62) → gp_Go l G (d + 12) m_Rf_one K 159 [some (.ref 95), some (.int (nI op))] [] (gv W1 u q) 0 0 := by
    intro op ho eo hk
    rw [if_pos hk] at e4
    refine gp_go od_Rf_one rfl ?_
    (repeat refine gp_gc [159] od_Rf_one rfl rfl ?_)
    refine gy_next (d := d + 3) T1 S1 (fun W2 hW2 S2 => ?_)
    (repeat refine gp_gc [159] od_Rf_one rfl rfl ?_)
    refine gy_ssumUp (d := d) W2 (j1 + 1) (c + U.length) _ (gy_RT (hW2 0) T1) S2 (by omega) ?_ ?_
    · intro W3 j2 V er2 R3 S3 seg3
      have g2 := gy_E_g _ _ _ _ _ er2
      have hj2 := gx_j_n g2.2.2
      rw [er2] at e4
      (repeat refine gp_gc [159] od_Rf_one rfl rfl ?_)
      refine gb1_ne_t (by decide) ?_
      (repeat refine gp_gc [159] od_Rf_one rfl rfl ?_)
      refine gy_lay (d := d + 11) S3 (by omega) (fun W4 R4 S4 k1 k2 => ?_)
      (repeat refine gp_gc [159] od_Rf_one rfl rfl ?_)
      have sg := gf_seg_3 (e := 0) (op := op) (v := 0) (gf_seg_cg (hW2 (c + U.length)).2.2 (Nat.le_refl _) seg1) R3 seg3 R4 k1 k2 ho
      have ln := gy_len3 U V op 0 c
      exact And.intro (Or.inr rfl) (h1 W4 j2 (U ++ V ++ [(op, 0)]) (by rw [e4, eo]) (gy_trans (gy_trans (gy_trans R1 (hW2 c) (Nat.le_refl _)) R3 (by omega)) R4 (by omega)) (by rw [ln]; exact S4) sg)
    · intro W3 e p er2 R3 k1 k2
      rw [er2] at e4
      (repeat refine gp_gc [159] od_Rf_one rfl rfl ?_)
      refine gb1_ne_f rfl ?_
      (repeat refine gp_gc [159] od_Rf_one rfl rfl ?_)
      exact And.intro (Or.inl rfl) (h0 W3 e p e4 (gy_trans (gy_trans R1 (hW2 c) (Nat.le_refl _)) R3 (by omega)) k1 k2)
  by_cases b1 : gx_kd tp n j1 = 60
  · refine gb_ne_f (ta.mpr b1) ?_
    (repeat refine gp_gc [159] od_Rf_one rfl rfl ?_)
    refine gb_ne_t (by decide) ?_
    exact k159 18 (by decide) (by omega) (Or.inl b1)
  refine gb_ne_t (fun z => b1 (ta.mp z)) ?_
  (repeat refine gp_gc [159] od_Rf_one rfl rfl ?_)
  by_cases b2 : gx_kd tp n j1 = 61
  · refine gb_ne_f (tb.mpr b2) ?_
    (repeat refine gp_gc [159] od_Rf_one rfl rfl ?_)
    refine gb_ne_t (by decide) ?_
    exact k159 19 (by decide) (by omega) (Or.inr (Or.inl b2))
  refine gb_ne_t (fun z => b2 (tb.mp z)) ?_
  (repeat refine gp_gc [159] od_Rf_one rfl rfl ?_)
  by_cases b3 : gx_kd tp n j1 = 62
  · refine gb_ne_f (tc.mpr b3) ?_
    (repeat refine gp_gc [159] od_Rf_one rfl rfl ?_)
    refine gb_ne_t (by decide) ?_
    exact k159 20 (by decide) (by omega) (Or.inr (Or.inr b3))
  refine gb_ne_t (fun z => b3 (tc.mp z)) ?_
  (repeat refine gp_gc [159] od_Rf_one rfl rfl ?_)
  refine gb_ne_f rfl ?_
  (repeat refine gp_gc [159] od_Rf_one rfl rfl ?_)
  rw [if_neg (by omega)] at e4
  refine gy_bad (d := d + 11) S1 (fun W hW k1 k2 => ?_)
  (repeat refine gp_gc [159] od_Rf_one rfl rfl ?_)
  exact And.intro (Or.inl rfl) (h0 W 1 j1 e4 (gy_trans R1 (hW c) (Nat.le_refl _)) k1 k2)
set_option maxRecDepth 100000 in
theorem gy_sone : ∀ (h : Nat) (d : Nat), h ≤ 8 → gy_C l G tp n u q (nI (8 - h)) m_Rf_one (d + 3 * h + 12) (gy_one (gx_kd tp n) (gx_nu tp n) h) := by
  intro h
  induction h with
  | zero =>
    intro d hh w j c K T S hc h1 h0
    have t1 := gy_tk S (k := 8) (by decide)
    have t2 := gy_tk S (k := 40) (by decide)
    refine gp_enter od_Rf_one rfl ?_
    (repeat refine gp_gc [92] od_Rf_one rfl rfl ?_)
    by_cases b1 : gx_kd tp n j = 8
    · have e3 : gy_one (gx_kd tp n) (gx_nu tp n) 0 j = .inl (3, j) := if_pos (Or.inl b1)
      refine gb_ne_f (t1.mpr b1) ?_
      (repeat refine gp_gc [92] od_Rf_one rfl rfl ?_)
      refine gy_opens (d := d + 2) (D := 8) (by decide) T S (fun z => by omega) (fun _ W hW k1 k2 => ?_)
      (repeat refine gp_gc [92] od_Rf_one rfl rfl ?_)
      refine gb1_eq_t rfl ?_
      (repeat refine gp_gc [92] od_Rf_one rfl rfl ?_)
      exact And.intro (Or.inl rfl) (h0 W 3 j e3 (hW c) k1 k2)
    refine gb_ne_t (fun z => b1 (t1.mp z)) ?_
    (repeat refine gp_gc [92] od_Rf_one rfl rfl ?_)
    by_cases b2 : gx_kd tp n j = 40
    · have e3 : gy_one (gx_kd tp n) (gx_nu tp n) 0 j = .inl (3, j) := if_pos (Or.inr b2)
      refine gb_ne_f (t2.mpr b2) ?_
      (repeat refine gp_gc [92] od_Rf_one rfl rfl ?_)
      refine gy_opens (d := d + 2) (D := 8) (by decide) T S (fun z => by omega) (fun _ W hW k1 k2 => ?_)
      (repeat refine gp_gc [92] od_Rf_one rfl rfl ?_)
      refine gb1_eq_t rfl ?_
      (repeat refine gp_gc [92] od_Rf_one rfl rfl ?_)
      exact And.intro (Or.inl rfl) (h0 W 3 j e3 (hW c) k1 k2)
    refine gb_ne_t (fun z => b2 (t2.mp z)) ?_
    have e3 : gy_one (gx_kd tp n) (gx_nu tp n) 0 j = gy_cmp (gx_kd tp n) (gx_nu tp n) j := if_neg (by omega)
    rw [e3] at h1 h0
    exact gl_cmp T S hc h1 h0
  | succ h ih =>
    intro d hh w j c K T S hc h1 h0
    have hn := T.2.1
    have t1 := gy_tk S (k := 8) (by decide)
    have t2 := gy_tk S (k := 40) (by decide)
    have eD : 8 - (h + 1) + 1 = 8 - h := by omega
    have eE : nI (8 - h) - nI 1 = nI (8 - (h + 1)) := by
      rw [pk_sub (by omega)]
      congr 1
    rw [show d + 3 * (h + 1) + 12 = d + 3 * h + 15 by omega]
    have C0 := ih (d + 2) (by omega)
    rw [show d + 2 + 3 * h + 12 = d + 3 * h + 14 by omega] at C0
    have C1 := ih d (by omega)
    have C2 := gy_severy (d := d + 3 * h) (gy_one_g (gx_kd tp n) (gx_nu tp n) h) C1
    have C3 := gy_sany (d := d + 3 * h) (gy_one_g (gx_kd tp n) (gx_nu tp n) h) C2
    refine gp_enter od_Rf_one rfl ?_
    (repeat refine gp_gc [92] od_Rf_one rfl rfl ?_)
    by_cases b1 : gx_kd tp n j = 8
    · have e4 : gy_one (gx_kd tp n) (gx_nu tp n) (h + 1) j = (match gy_one (gx_kd tp n) (gx_nu tp n) h (j + 1) with
        | .inl e => .inl e
        | .inr (j', U) => .inr (j', U ++ [(21, 0)])) := if_pos b1
      refine gb_ne_f (t1.mpr b1) ?_
      (repeat refine gp_gc [92] od_Rf_one rfl rfl ?_)
      refine gy_opens (d := d + 3 * h + 5) (D := 8 - (h + 1)) (by omega) T S (fun _ W1 hW1 S1 => ?_) (fun z => by omega)
      rw [eD] at S1
      (repeat refine gp_gc [92] od_Rf_one rfl rfl ?_)
      refine gb1_eq_f (by decide) ?_
      (repeat refine gp_gc [92] od_Rf_one rfl rfl ?_)
      refine C0 W1 (j + 1) c _ (gy_RT (hW1 0) T) S1 (by omega) ?_ ?_
      · intro W2 j2 U er R2 S2 seg2
        have g := gy_one_g _ _ _ _ _ _ er
        have hj2 := gx_j_n g.2.2
        rw [er] at e4
        have e41 := S2.2.2.2.2.2.1
        have S3 : gy_S tp n (gw W2 95 41 (W2 95 41 - nI 1)) j2 (c + U.length) (nI (8 - (h + 1))) := ⟨S2.1, S2.2.1, S2.2.2.1, S2.2.2.2.1, S2.2.2.2.2.1, by show W2 95 41 - nI 1 = _; rw [e41, eE], S2.2.2.2.2.2.2⟩
        (repeat refine gp_gc [92] od_Rf_one rfl rfl ?_)
        refine gb1_ne_t (by decide) ?_
        (repeat refine gp_gc [92] od_Rf_one rfl rfl ?_)
        refine gy_lay (d := d + 3 * h + 14) (w := gw W2 95 41 (W2 95 41 - nI 1)) S3 (by omega) (fun W4 R4 S4 k1 k2 => ?_)
        (repeat refine gp_gc [92] od_Rf_one rfl rfl ?_)
        have ln : c + (U ++ [(21, (0 : Int32))]).length = c + U.length + 1 := by simp [Nat.add_assoc]
        exact And.intro (Or.inr rfl) (h1 W4 j2 (U ++ [(21, 0)]) e4 (gy_trans (gy_trans (gy_trans (hW1 c) R2 (Nat.le_refl _)) (gy_95 (gy_refl W2 c) rfl) (Nat.le_refl _)) R4 (by omega)) (by rw [ln]; exact S4) (gf_seg_app (gf_seg_cg (f := W2 117) (fun x hx => R4.2.2 x hx) (Nat.le_refl _) seg2) (gf_seg_1 k1 k2 (by decide))))
      · intro W2 e p er R2 k1 k2
        rw [er] at e4
        (repeat refine gp_gc [92] od_Rf_one rfl rfl ?_)
        refine gb1_ne_f rfl ?_
        (repeat refine gp_gc [92] od_Rf_one rfl rfl ?_)
        exact And.intro (Or.inl rfl) (h0 W2 e p e4 (gy_trans (hW1 c) R2 (Nat.le_refl _)) k1 k2)
    refine gb_ne_t (fun z => b1 (t1.mp z)) ?_
    (repeat refine gp_gc [92] od_Rf_one rfl rfl ?_)
    by_cases b2 : gx_kd tp n j = 40
    · have e4 : gy_one (gx_kd tp n) (gx_nu tp n) (h + 1) j = (match gy_an (gx_kd tp n) (gy_one (gx_kd tp n) (gx_nu tp n) h) (j + 1) with
        | .inl e => .inl e
        | .inr (j', U) => if gx_kd tp n j' = 41 then .inr (j' + 1, U) else .inl (1, j')) := (if_neg b1).trans (if_pos b2)
      refine gb_ne_f (t2.mpr b2) ?_
      (repeat refine gp_gc [92] od_Rf_one rfl rfl ?_)
      refine gy_opens (d := d + 3 * h + 5) (D := 8 - (h + 1)) (by omega) T S (fun _ W1 hW1 S1 => ?_) (fun z => by omega)
      rw [eD] at S1
      (repeat refine gp_gc [92] od_Rf_one rfl rfl ?_)
      refine gb1_eq_f (by decide) ?_
      (repeat refine gp_gc [92] od_Rf_one rfl rfl ?_)
      refine C3 W1 (j + 1) c _ (gy_RT (hW1 0) T) S1 (by omega) ?_ ?_
      · intro W2 j2 U er R2 S2 seg2
        have g := gy_an_g (gy_one_g _ _ _) _ _ _ er
        have hj2 := gx_j_n g.2.2
        rw [er] at e4
        (repeat refine gp_gc [92] od_Rf_one rfl rfl ?_)
        refine gb1_eq_f (by decide) ?_
        (repeat refine gp_gc [92] od_Rf_one rfl rfl ?_)
        refine gy_need (d := d + 3 * h + 5) (k := 41) rfl (by decide) (gy_RT R2 (gy_RT (hW1 0) T)) S2 (fun b3 W3 hW3 S3 => ?_) (fun b3 W3 hW3 k1 k2 => ?_)
        · have e4 : gy_one (gx_kd tp n) (gx_nu tp n) (h + 1) j = .inr (j2 + 1, U) := e4.trans (if_pos b3)
          have e41 := S3.2.2.2.2.2.1
          have S4 : gy_S tp n (gw W3 95 41 (W3 95 41 - nI 1)) (j2 + 1) (c + U.length) (nI (8 - (h + 1))) := ⟨S3.1, S3.2.1, S3.2.2.1, S3.2.2.2.1, S3.2.2.2.2.1, by show W3 95 41 - nI 1 = _; rw [e41, eE], S3.2.2.2.2.2.2⟩
          (repeat refine gp_gc [92] od_Rf_one rfl rfl ?_)
          refine gb1_ne_t (by decide) ?_
          (repeat refine gp_gc [92] od_Rf_one rfl rfl ?_)
          exact And.intro (Or.inr rfl) (h1 (gw W3 95 41 (W3 95 41 - nI 1)) _ U e4 (gy_trans (gy_trans (gy_trans (hW1 c) R2 (Nat.le_refl _)) (hW3 c) (Nat.le_refl _)) (gy_95 (gy_refl W3 c) rfl) (Nat.le_refl _)) S4 (gf_seg_cg (f := W2 117) (fun x hx => (hW3 (c + U.length)).2.2 x hx) (Nat.le_refl _) seg2))
        · have e4 : gy_one (gx_kd tp n) (gx_nu tp n) (h + 1) j = .inl (1, j2) := e4.trans (if_neg b3)
          (repeat refine gp_gc [92] od_Rf_one rfl rfl ?_)
          refine gb1_ne_f rfl ?_
          (repeat refine gp_gc [92] od_Rf_one rfl rfl ?_)
          exact And.intro (Or.inl rfl) (h0 W3 1 j2 e4 (gy_trans (gy_trans (hW1 c) R2 (Nat.le_refl _)) (hW3 c) (Nat.le_refl _)) k1 k2)
      · intro W2 e p er R2 k1 k2
        rw [er] at e4
        (repeat refine gp_gc [92] od_Rf_one rfl rfl ?_)
        refine gb1_eq_t rfl ?_
        (repeat refine gp_gc [92] od_Rf_one rfl rfl ?_)
        exact And.intro (Or.inl rfl) (h0 W2 e p e4 (gy_trans (hW1 c) R2 (Nat.le_refl _)) k1 k2)
    refine gb_ne_t (fun z => b2 (t2.mp z)) ?_
    have e3 : gy_one (gx_kd tp n) (gx_nu tp n) (h + 1) j = gy_cmp (gx_kd tp n) (gx_nu tp n) j := (if_neg b1).trans (if_neg b2)
    rw [e3] at h1 h0
    exact gl_cmp (d := d + 3 * h + 3) T S hc h1 h0
end

end
