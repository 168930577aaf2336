section
variable {l : Launch} {G : gp_G} {d : Nat} {w : Nat → Nat → Int32} {u : Int64 × (Nat → Int64)} {q : Nat → Nat} {K : Option Value → gp_H → Prop}
/-! ===== the class's parser: checks in checks ===== -/
section
variable {tp : Nat → Nat} {n t : Nat}
set_option maxRecDepth 100000 in
theorem gp_chk_h {xo k : Int32} {H : gp_H} (h1 : (k = 8 ∨ k = 40) → 8 ≤ xo → gp_Go l G (d + 1) m_Pa_check K 33 [some (.ref 55), some (.int xo), some (.int k), some (.int 1), none] [] H 0 0) (h2 : k = 8 → ¬ 8 ≤ xo → gp_Go l G (d + 1) m_Pa_check K 47 [some (.ref 55), some (.int xo), some (.int k), some (.int 1), none] [] H 0 0) (h3 : k = 40 → ¬ 8 ≤ xo → gp_Go l G (d + 1) m_Pa_check K 80 [some (.ref 55), some (.int xo), some (.int k), some (.int 1), none] [] H 0 0) (h4 : ¬ k = 8 → ¬ k = 40 → gp_Go l G (d + 1) m_Pa_check K 106 [some (.ref 55), some (.int xo), some (.int k), some (.int 0), none] [] H 0 0) : gp_Go l G (d + 1) m_Pa_check K 5 [some (.ref 55), some (.int xo), some (.int k), none, none] [] H 0 0 := by
  have at41 : ¬ 8 ≤ xo → (k = 8 ∨ k = 40) → gp_Go l G (d + 1) m_Pa_check K 41 [some (.ref 55), some (.int xo), some (.int k), some (.int 1), none] [] H 0 0 := by
    intro h8 hk
    refine gp_go od_Pa_check rfl ?_
    (repeat refine gp_gc [5, 23, 33, 41, 47, 80, 106] od_Pa_check rfl rfl ?_)
    by_cases c1 : k = 8
    · refine gb_ne_f c1 ?_
      (repeat refine gp_gc [5, 23, 33, 41, 47, 80, 106] od_Pa_check rfl rfl ?_)
      exact h2 c1 h8
    refine gb_ne_t c1 ?_
    (repeat refine gp_gc [5, 23, 33, 41, 47, 80, 106] od_Pa_check rfl rfl ?_)
    refine gb_ne_f (hk.resolve_left c1) ?_
    (repeat refine gp_gc [5, 23, 33, 41, 47, 80, 106] od_Pa_check rfl rfl ?_)
    exact h3 (hk.resolve_left c1) h8
  have at23 : (k = 8 ∨ k = 40) → gp_Go l G (d + 1) m_Pa_check K 23 [some (.ref 55), some (.int xo), some (.int k), some (.int 1), none] [] H 0 0 := by
    intro hk
    refine gp_go od_Pa_check rfl ?_
    (repeat refine gp_gc [5, 23, 33, 41, 47, 80, 106] od_Pa_check rfl rfl ?_)
    refine gb1_eq_f (by decide) ?_
    (repeat refine gp_gc [5, 23, 33, 41, 47, 80, 106] od_Pa_check rfl rfl ?_)
    by_cases c8 : 8 ≤ xo
    · refine gb_lt_f (Int32.not_lt.mpr c8) ?_
      (repeat refine gp_gc [5, 23, 33, 41, 47, 80, 106] od_Pa_check rfl rfl ?_)
      exact h1 hk c8
    · refine gb_lt_t (Int32.not_le.mp c8) ?_
      (repeat refine gp_gc [5, 23, 33, 41, 47, 80, 106] od_Pa_check rfl rfl ?_)
      exact at41 c8 hk
  refine gp_go od_Pa_check rfl ?_
  (repeat refine gp_gc [5, 23, 33, 41, 47, 80, 106] od_Pa_check rfl rfl ?_)
  by_cases c1 : k = 8
  · refine gb_eq_t c1 ?_
    (repeat refine gp_gc [5, 23, 33, 41, 47, 80, 106] od_Pa_check rfl rfl ?_)
    exact at23 (Or.inl c1)
  refine gb_eq_f c1 ?_
  (repeat refine gp_gc [5, 23, 33, 41, 47, 80, 106] od_Pa_check rfl rfl ?_)
  by_cases c2 : k = 40
  · refine gb_ne_f c2 ?_
    (repeat refine gp_gc [5, 23, 33, 41, 47, 80, 106] od_Pa_check rfl rfl ?_)
    exact at23 (Or.inr c2)
  refine gb_ne_t c2 ?_
  (repeat refine gp_gc [5, 23, 33, 41, 47, 80, 106] od_Pa_check rfl rfl ?_)
  refine gp_go od_Pa_check rfl ?_
  (repeat refine gp_gc [5, 23, 33, 41, 47, 80, 106] od_Pa_check rfl rfl ?_)
  refine gb1_eq_t rfl ?_
  (repeat refine gp_gc [5, 23, 33, 41, 47, 80, 106] od_Pa_check rfl rfl ?_)
  refine gp_go od_Pa_check rfl ?_
  (repeat refine gp_gc [5, 23, 33, 41, 47, 80, 106] od_Pa_check rfl rfl ?_)
  refine gb_ne_t c1 ?_
  (repeat refine gp_gc [5, 23, 33, 41, 47, 80, 106] od_Pa_check rfl rfl ?_)
  refine gb_ne_t c2 ?_
  (repeat refine gp_gc [5, 23, 33, 41, 47, 80, 106] od_Pa_check rfl rfl ?_)
  exact h4 c1 c2
set_option maxRecDepth 100000 in
theorem gp_check (hm : q 6 < 7) : ∀ h, h ≤ 8 → ∀ d, gpC l G u q tp n t m_Pa_check [.ref 55, .int (nI (8 - h))] (d + 3 + 2 * h) (gy_one (gx_kd tp n) (gx_nu tp n) h) := by
  intro h
  induction h with
  | zero =>
    intro _ d
    have T := fun (x2 x3 : Int32) => gp_chk_t (x2 := x2) (x3 := x3) (l := l) (G := G) (d := d) (u := u) (q := q) (tp := tp) (n := n) (t := t) (xo := nI (8 - 0)) hm
    constructor
    · intro W j c K B hO hcj hS hF
      have kb := gx_kd_b tp n j
      have e8 : gx_kd tp n j = 8 ↔ nI (gx_kd tp n j) = 8 := (nI_eq (b := 8) (by omega) (by decide)).symm
      have e40 : gx_kd tp n j = 40 ↔ nI (gx_kd tp n j) = 40 := (nI_eq (b := 40) (by omega) (by decide)).symm
      rw [gy_one] at hS hF
      refine gp_enter od_Pa_check rfl ?_
      (repeat refine gp_gc [5, 33, 47, 80, 106] od_Pa_check rfl rfl ?_)
      refine sp_Pa_kind (d := d + 2) (w := W) B (fun k _ hk => ?_)
      have hk := hk j hO.1 hO.2.1
      subst hk
      (repeat refine gp_gc [5, 33, 47, 80, 106] od_Pa_check rfl rfl ?_)
      refine gp_chk_h (d := d + 2) (fun c1 _ => ?_) (fun _ z => absurd (by decide) z) (fun _ z => absurd (by decide) z) (fun c1 c2 => ?_)
      · rw [if_pos (by rw [e8, e40]; exact c1)] at hF
        refine gp_go od_Pa_check rfl ?_
        (repeat refine gp_gc [5, 33, 47, 80, 106] od_Pa_check rfl rfl ?_)
        refine gpO_fail (d := d + 2) (w := W) hm B hO (e := 3) rfl (by decide) (by decide) (fun W1 f1 X1 => ?_)
        (repeat refine gp_gc [5, 33, 47, 80, 106] od_Pa_check rfl rfl ?_)
        exact hF W1 3 j rfl f1 X1
      · rw [if_neg (by rw [e8, e40]; exact fun z => z.elim c1 c2)] at hS hF
        exact (T _ _).1 W j c K B hO hcj hS hF
    · intro W e p K B hX hK
      refine gp_enter od_Pa_check rfl ?_
      (repeat refine gp_gc [5, 33, 47, 80, 106] od_Pa_check rfl rfl ?_)
      refine sp_Pa_kind (d := d + 2) (w := W) B (fun k _ _ => ?_)
      (repeat refine gp_gc [5, 33, 47, 80, 106] od_Pa_check rfl rfl ?_)
      refine gp_chk_h (d := d + 2) (fun c1 _ => ?_) (fun _ z => absurd (by decide) z) (fun _ z => absurd (by decide) z) (fun c1 c2 => ?_)
      · refine gp_go od_Pa_check rfl ?_
        (repeat refine gp_gc [5, 33, 47, 80, 106] od_Pa_check rfl rfl ?_)
        refine gpX_fail (d := d + 2) (w := W) B hX ?_
        (repeat refine gp_gc [5, 33, 47, 80, 106] od_Pa_check rfl rfl ?_)
        exact hK W (gEF_r W 0) hX
      · exact (T _ _).2 W e p K B hX hK
  | succ h ih =>
    intro hh d
    have ih := ih (by omega)
    have C1 : gpC l G u q tp n t m_Pa_check [.ref 55, .int (nI (8 - h))] (d + 4 + 2 * h) (gy_one (gx_kd tp n) (gx_nu tp n) h) := by
      have := ih (d + 1)
      rw [show d + 1 + 3 + 2 * h = d + 4 + 2 * h by omega] at this
      exact this
    have C2 : gpC l G u q tp n t m_Pa_condition [.ref 55, .int (nI (8 - h))] (d + 4 + 2 * h) (gy_an (gx_kd tp n) (gy_one (gx_kd tp n) (gx_nu tp n) h)) := by
      have := gp_cond hm (gy_one_g _ _ h) (ih d)
      rw [show d + 3 + 2 * h + 1 = d + 4 + 2 * h by omega] at this
      exact this
    have C3 := gp_expect (l := l) (G := G) (u := u) (q := q) (tp := tp) (n := n) (t := t) (d := d + 3 + 2 * h) (x := (Int8.ofInt 41).toInt32) (s := 41) hm rfl (by decide) (by decide)
    rw [show d + 3 + 2 * h + 1 = d + 4 + 2 * h by omega] at C3
    have T := fun (x2 x3 : Int32) => gp_chk_t (x2 := x2) (x3 := x3) (l := l) (G := G) (d := d + 2 + 2 * h) (u := u) (q := q) (tp := tp) (n := n) (t := t) (xo := nI (8 - (h + 1))) hm
    rw [show d + 3 + 2 * (h + 1) = d + 4 + 2 * h + 1 by omega]
    have eT : d + 2 + 2 * h + 3 = d + 4 + 2 * h + 1 := by omega
    simp only [eT] at T
    have e1 : nI (8 - (h + 1)) + Int32.ofInt 1 = nI (8 - h) := by rw [show 8 - h = 8 - (h + 1) + 1 by omega]; exact nI_1 _
    have n8 : ¬ 8 ≤ nI (8 - (h + 1)) := nI_ge (b := 8) (by omega) (by decide)
    constructor
    · intro W j c K B hO hcj hS hF
      have ht := B.2.1
      have kb := gx_kd_b tp n j
      have e8 : gx_kd tp n j = 8 ↔ nI (gx_kd tp n j) = 8 := (nI_eq (b := 8) (by omega) (by decide)).symm
      have e40 : gx_kd tp n j = 40 ↔ nI (gx_kd tp n j) = 40 := (nI_eq (b := 40) (by omega) (by decide)).symm
      have hC := gy_one_s (kd := gx_kd tp n) (nm := gx_nu tp n) (h := h) (j := j)
      have O1 : j < t → gpO (q 6) t (gw W 55 6 (W 55 6 + 1)) (j + 1) c := gpO_at hm hO
      have g1 : gEF (q 6) W (gw W 55 6 (W 55 6 + 1)) c := gEF_55 hm (gEF_r W _) (by omega)
      refine gp_enter od_Pa_check rfl ?_
      (repeat refine gp_gc [5, 33, 47, 80, 106] od_Pa_check rfl rfl ?_)
      refine sp_Pa_kind (d := d + 4 + 2 * h) (w := W) B (fun k _ hk => ?_)
      have hk := hk j hO.1 hO.2.1
      subst hk
      (repeat refine gp_gc [5, 33, 47, 80, 106] od_Pa_check rfl rfl ?_)
      refine gp_chk_h (d := d + 4 + 2 * h) (fun _ z => absurd z n8) (fun c1 _ => ?_) (fun c1 _ => ?_) (fun c1 c2 => ?_)
      · have c1 := e8.mpr c1
        have hj : j < t := gpB_lt B (by omega)
        rw [if_pos c1] at hC
        refine gp_go od_Pa_check rfl ?_
        (repeat refine gp_gc [5, 33, 47, 80, 106] od_Pa_check rfl rfl ?_)
        rw [e1]
        refine C1.1 (gw W 55 6 (W 55 6 + 1)) (j + 1) c _ (gEF_B hm g1 B) (O1 hj) (by omega) (fun W2 j2 U e2 f2 O2 s2 => ?_) (fun W2 e p e2 f2 X2 => ?_)
        · rw [e2] at hC
          have g2 := gy_one_g _ _ h _ _ _ e2
          have hj2 := O2.2.1
          (repeat refine gp_gc [5, 33, 47, 80, 106] od_Pa_check rfl rfl ?_)
          refine gpO_em (d := d + 4 + 2 * h) (w := W2) (op := 9) (v := 0) (k := 21) (x := 0) hm O2 (by omega) (by decide) (by decide) (by decide) (gc_oc_o (k := 21) (by decide)) (fun z => absurd z (by decide)) (fun _ z => absurd z (by decide)) (fun W3 f3 O3 s3 => ?_)
          (repeat refine gp_gc [5, 33, 47, 80, 106] od_Pa_check rfl rfl ?_)
          have el2 : c + (U ++ [((21 : Nat), (0 : Int32))]).length = c + U.length + 1 := by rw [List.length_append]; rfl
          exact hS W3 j2 _ hC (gEF_t g1 (gEF_t f2 f3 (by omega)) (Nat.le_refl c)) (by rw [el2]; exact O3) (gc_seg_2 s2 f3.2.2.2 s3)
        · rw [e2] at hC
          (repeat refine gp_gc [5, 33, 47, 80, 106] od_Pa_check rfl rfl ?_)
          refine gpX_em (d := d + 4 + 2 * h) (w := W2) hm X2 (fun W3 f3 X3 => ?_)
          (repeat refine gp_gc [5, 33, 47, 80, 106] od_Pa_check rfl rfl ?_)
          exact hF W3 e p hC (gEF_t (gEF_0 g1) (gEF_t f2 f3 (Nat.le_refl 0)) (Nat.le_refl 0)) X3
      · have c1 := e40.mpr c1
        have hj : j < t := gpB_lt B (by omega)
        rw [if_neg (by omega), if_pos c1] at hC
        refine gp_go od_Pa_check rfl ?_
        (repeat refine gp_gc [5, 33, 47, 80, 106] od_Pa_check rfl rfl ?_)
        rw [e1]
        refine C2.1 (gw W 55 6 (W 55 6 + 1)) (j + 1) c _ (gEF_B hm g1 B) (O1 hj) (by omega) (fun W2 j2 U e2 f2 O2 s2 => ?_) (fun W2 e p e2 f2 X2 => ?_)
        · rw [e2, gyb_r] at hC
          have g2 := gy_an_g (gy_one_g _ _ h) _ _ _ e2
          have hj2 := O2.2.1
          (repeat refine gp_gc [5, 33, 47, 80, 106] od_Pa_check rfl rfl ?_)
          refine C3.1 W2 j2 (c + U.length) _ (gEF_B hm f2 (gEF_B hm g1 B)) O2 (by omega) (fun W3 j3 V e3 f3 O3 s3 => ?_) (fun W3 e p e3 f3 X3 => ?_)
          · rw [e3] at hC
            have ev : V = [] := by
              unfold gy_exp at e3
              split at e3
              · cases e3; rfl
              · cases e3
            subst ev
            (repeat refine gp_gc [5, 33, 47, 80, 106] od_Pa_check rfl rfl ?_)
            exact hS W3 j3 U hC (gEF_t g1 (gEF_t f2 f3 (by omega)) (Nat.le_refl c)) O3 (gc_seg_cg f3.2.2.2 (Nat.le_refl _) s2)
          · rw [e3] at hC
            (repeat refine gp_gc [5, 33, 47, 80, 106] od_Pa_check rfl rfl ?_)
            exact hF W3 e p hC (gEF_t (gEF_0 g1) (gEF_t (gEF_0 f2) f3 (Nat.le_refl 0)) (Nat.le_refl 0)) X3
        · rw [e2] at hC
          (repeat refine gp_gc [5, 33, 47, 80, 106] od_Pa_check rfl rfl ?_)
          refine C3.2 W2 e _ _ (gEF_B hm f2 (gEF_B hm g1 B)) X2 (fun W3 f3 X3 => ?_)
          (repeat refine gp_gc [5, 33, 47, 80, 106] od_Pa_check rfl rfl ?_)
          exact hF W3 e p hC (gEF_t (gEF_0 g1) (gEF_t f2 f3 (Nat.le_refl 0)) (Nat.le_refl 0)) X3
      · rw [if_neg (fun z => c1 (e8.mp z)), if_neg (fun z => c2 (e40.mp z))] at hC
        rw [hC] at hS hF
        exact (T _ _).1 W j c K B hO hcj hS hF
    · intro W e p K B hX hK
      have g1 : gEF (q 6) W (gw W 55 6 (W 55 6 + 1)) 0 := gEF_55 hm (gEF_r W _) (by omega)
      refine gp_enter od_Pa_check rfl ?_
      (repeat refine gp_gc [5, 33, 47, 80, 106] od_Pa_check rfl rfl ?_)
      refine sp_Pa_kind (d := d + 4 + 2 * h) (w := W) B (fun k _ _ => ?_)
      (repeat refine gp_gc [5, 33, 47, 80, 106] od_Pa_check rfl rfl ?_)
      refine gp_chk_h (d := d + 4 + 2 * h) (fun _ z => absurd z n8) (fun c1 _ => ?_) (fun c1 _ => ?_) (fun c1 c2 => ?_)
      · refine gp_go od_Pa_check rfl ?_
        (repeat refine gp_gc [5, 33, 47, 80, 106] od_Pa_check rfl rfl ?_)
        rw [e1]
        refine C1.2 (gw W 55 6 (W 55 6 + 1)) e p _ (gEF_B hm g1 B) (gpX_at hm hX) (fun W2 f2 X2 => ?_)
        (repeat refine gp_gc [5, 33, 47, 80, 106] od_Pa_check rfl rfl ?_)
        refine gpX_em (d := d + 4 + 2 * h) (w := W2) hm X2 (fun W3 f3 X3 => ?_)
        (repeat refine gp_gc [5, 33, 47, 80, 106] od_Pa_check rfl rfl ?_)
        exact hK W3 (gEF_t g1 (gEF_t f2 f3 (Nat.le_refl 0)) (Nat.le_refl 0)) X3
      · refine gp_go od_Pa_check rfl ?_
        (repeat refine gp_gc [5, 33, 47, 80, 106] od_Pa_check rfl rfl ?_)
        rw [e1]
        refine C2.2 (gw W 55 6 (W 55 6 + 1)) e p _ (gEF_B hm g1 B) (gpX_at hm hX) (fun W2 f2 X2 => ?_)
        (repeat refine gp_gc [5, 33, 47, 80, 106] od_Pa_check rfl rfl ?_)
        refine C3.2 W2 e p _ (gEF_B hm f2 (gEF_B hm g1 B)) X2 (fun W3 f3 X3 => ?_)
        (repeat refine gp_gc [5, 33, 47, 80, 106] od_Pa_check rfl rfl ?_)
        exact hK W3 (gEF_t g1 (gEF_t f2 f3 (Nat.le_refl 0)) (Nat.le_refl 0)) X3
      · exact (T _ _).2 W e p K B hX hK
end

end
