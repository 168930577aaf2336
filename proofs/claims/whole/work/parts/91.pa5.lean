section
variable {l : Launch} {G : gp_G} {d : Nat} {w : Nat → Nat → Int32} {u : Int64 × (Nat → Int64)} {q : Nat → Nat} {K : Option Value → gp_H → Prop}
/-! ===== the class's parser: one check ===== -/
theorem gy_cmp_s {kd nm : Nat → Nat} {j : Nat} : gy_cmp kd nm j = gyb (gy_E kd nm j) (fun j1 U => if kd j1 = 60 ∨ kd j1 = 61 ∨ kd j1 = 62 then gyb (gy_E kd nm (j1 + 1)) (fun j2 V => .inr (j2, U ++ V ++ [(kd j1 - 42, 0)])) else .inl (1, j1)) := by
  unfold gy_cmp
  cases gy_E kd nm j with
  | inl e => rfl
  | inr p =>
    rw [gyb_r]
    by_cases c : kd p.1 = 60 ∨ kd p.1 = 61 ∨ kd p.1 = 62
    · rw [if_pos c]
      show (if kd p.1 = 60 ∨ kd p.1 = 61 ∨ kd p.1 = 62 then _ else _) = _
      rw [if_pos c]
      cases gy_E kd nm (p.1 + 1) <;> rfl
    · rw [if_neg c]
      show (if kd p.1 = 60 ∨ kd p.1 = 61 ∨ kd p.1 = 62 then _ else _) = _
      rw [if_neg c]
theorem gy_one_s {kd nm : Nat → Nat} {h j : Nat} : gy_one kd nm (h + 1) j = if kd j = 8 then gyb (gy_one kd nm h (j + 1)) (fun j' U => .inr (j', U ++ [(21, 0)])) else if kd j = 40 then gyb (gy_an kd (gy_one kd nm h) (j + 1)) (fun j' U => gyb (gy_exp kd 41 j') (fun j2 _ => .inr (j2, U))) else gy_cmp kd nm j := by
  rw [gy_one]
  by_cases c1 : kd j = 8
  · rw [if_pos c1, if_pos c1]
    cases gy_one kd nm h (j + 1) <;> rfl
  rw [if_neg c1, if_neg c1]
  by_cases c2 : kd j = 40
  · rw [if_pos c2, if_pos c2]
    cases gy_an kd (gy_one kd nm h) (j + 1) with
    | inl e => rfl
    | inr p =>
      rw [gyb_r]
      unfold gy_exp
      by_cases c3 : kd p.1 = 41
      · rw [if_pos c3]
        show (if kd p.1 = 41 then _ else _) = _
        rw [if_pos c3]
        rfl
      · rw [if_neg c3]
        show (if kd p.1 = 41 then _ else _) = _
        rw [if_neg c3]
        rfl
  rw [if_neg c2, if_neg c2]
section
variable {tp : Nat → Nat} {n t : Nat}
set_option maxRecDepth 100000 in
theorem gpX_cmp {e p : Nat} {x : Int32} (hm : q 6 < 7) (B : gpB w tp n t) (hX : gpX (q 6) w e p) (h : ∀ W', gEF (q 6) w W' 0 → gpX (q 6) W' e p → K none (gv W' u q)) : gp_Cal l G (d + 2) m_Pa_expectComparison [.ref 55, .int x] (gv w u q) K := by
  refine gp_enter od_Pa_expectComparison rfl ?_
  (repeat refine gp_gc [] od_Pa_expectComparison rfl rfl ?_)
  by_cases c1 : x = 60
  · refine gb_eq_t c1 ?_
    (repeat refine gp_gc [] od_Pa_expectComparison rfl rfl ?_)
    refine (gp_expect (d := d) (s := 60) hm c1 (by decide) (by decide)).2 w e p _ B hX (fun W1 f1 X1 => ?_)
    (repeat refine gp_gc [] od_Pa_expectComparison rfl rfl ?_)
    exact h W1 f1 X1
  refine gb_eq_f c1 ?_
  (repeat refine gp_gc [] od_Pa_expectComparison rfl rfl ?_)
  by_cases c2 : x = 61
  · refine gb_eq_t c2 ?_
    (repeat refine gp_gc [] od_Pa_expectComparison rfl rfl ?_)
    refine (gp_expect (d := d) (s := 61) hm c2 (by decide) (by decide)).2 w e p _ B hX (fun W1 f1 X1 => ?_)
    (repeat refine gp_gc [] od_Pa_expectComparison rfl rfl ?_)
    exact h W1 f1 X1
  refine gb_eq_f c2 ?_
  (repeat refine gp_gc [] od_Pa_expectComparison rfl rfl ?_)
  by_cases c3 : x = 62
  · refine gb_ne_f c3 ?_
    (repeat refine gp_gc [] od_Pa_expectComparison rfl rfl ?_)
    refine (gp_expect (d := d) (s := 62) hm c3 (by decide) (by decide)).2 w e p _ B hX (fun W1 f1 X1 => ?_)
    (repeat refine gp_gc [] od_Pa_expectComparison rfl rfl ?_)
    exact h W1 f1 X1
  refine gb_ne_t c3 ?_
  (repeat refine gp_gc [] od_Pa_expectComparison rfl rfl ?_)
  refine (gp_expect (d := d) (s := 33) hm rfl (by decide) (by decide)).2 w e p _ B hX (fun W1 f1 X1 => ?_)
  (repeat refine gp_gc [] od_Pa_expectComparison rfl rfl ?_)
  exact h W1 f1 X1
set_option maxRecDepth 100000 in
theorem gpO_cmp {j c : Nat} (hm : q 6 < 7) (B : gpB w tp n t) (hO : gpO (q 6) t w j c) (hcj : c ≤ j) (h1 : (gx_kd tp n j = 60 ∨ gx_kd tp n j = 61 ∨ gx_kd tp n j = 62) → ∀ W', gEF (q 6) w W' c → gpO (q 6) t W' (j + 1) c → K none (gv W' u q)) (h0 : ¬ (gx_kd tp n j = 60 ∨ gx_kd tp n j = 61 ∨ gx_kd tp n j = 62) → ∀ W', gEF (q 6) w W' 0 → gpX (q 6) W' 1 (gx_sp tp n j) → K none (gv W' u q)) : gp_Cal l G (d + 2) m_Pa_expectComparison [.ref 55, .int (nI (gx_kd tp n j))] (gv w u q) K := by
  have kb := gx_kd_b tp n j
  have good : ∀ s, gx_kd tp n j = s → (s = 60 ∨ s = 61 ∨ s = 62) → ∀ K', (∀ W', gEF (q 6) w W' c → gpO (q 6) t W' (j + 1) c → K' none (gv W' u q)) → gp_Cal l G (d + 1) m_Pa_expect [.ref 55, .int (nI (gx_kd tp n j))] (gv w u q) K' := by
    intro s es hs K' hK
    refine (gp_expect (d := d) (s := s) hm (by rw [es]) (by omega) (by omega)).1 w j c _ B hO hcj (fun W' j' L e f O _ => ?_) (fun W' e p ee _ _ => ?_)
    · unfold gy_exp at e
      rw [if_pos es] at e
      cases e
      exact hK W' f O
    · unfold gy_exp at ee
      rw [if_pos es] at ee
      cases ee
  refine gp_enter od_Pa_expectComparison rfl ?_
  (repeat refine gp_gc [] od_Pa_expectComparison rfl rfl ?_)
  by_cases c1 : gx_kd tp n j = 60
  · refine gb_eq_t (by rw [c1]; rfl) ?_
    (repeat refine gp_gc [] od_Pa_expectComparison rfl rfl ?_)
    refine good 60 c1 (by decide) _ (fun W1 f1 O1 => ?_)
    (repeat refine gp_gc [] od_Pa_expectComparison rfl rfl ?_)
    exact h1 (Or.inl c1) W1 f1 O1
  refine gb_eq_f (fun z => c1 ((nI_eq (b := 60) (by omega) (by decide)).mp z)) ?_
  (repeat refine gp_gc [] od_Pa_expectComparison rfl rfl ?_)
  by_cases c2 : gx_kd tp n j = 61
  · refine gb_eq_t (by rw [c2]; rfl) ?_
    (repeat refine gp_gc [] od_Pa_expectComparison rfl rfl ?_)
    refine good 61 c2 (by decide) _ (fun W1 f1 O1 => ?_)
    (repeat refine gp_gc [] od_Pa_expectComparison rfl rfl ?_)
    exact h1 (Or.inr (Or.inl c2)) W1 f1 O1
  refine gb_eq_f (fun z => c2 ((nI_eq (b := 61) (by omega) (by decide)).mp z)) ?_
  (repeat refine gp_gc [] od_Pa_expectComparison rfl rfl ?_)
  by_cases c3 : gx_kd tp n j = 62
  · refine gb_ne_f (by rw [c3]; rfl) ?_
    (repeat refine gp_gc [] od_Pa_expectComparison rfl rfl ?_)
    refine good 62 c3 (by decide) _ (fun W1 f1 O1 => ?_)
    (repeat refine gp_gc [] od_Pa_expectComparison rfl rfl ?_)
    exact h1 (Or.inr (Or.inr c3)) W1 f1 O1
  refine gb_ne_t (fun z => c3 ((nI_eq (b := 62) (by omega) (by decide)).mp z)) ?_
  (repeat refine gp_gc [] od_Pa_expectComparison rfl rfl ?_)
  refine (gp_expect (d := d) (s := 33) hm rfl (by decide) (by decide)).1 w j c _ B hO hcj (fun W' j' L e f O _ => ?_) (fun W' e p ee f X => ?_)
  · unfold gy_exp at e
    rw [if_neg (gx_kd_33 tp n j)] at e
    cases e
  · unfold gy_exp at ee
    rw [if_neg (gx_kd_33 tp n j)] at ee
    cases ee
    (repeat refine gp_gc [] od_Pa_expectComparison rfl rfl ?_)
    exact h0 (by omega) W' f X
set_option maxRecDepth 100000 in
theorem gp_chk_t (hm : q 6 < 7) {xo x2 x3 : Int32} : (∀ (W : Nat → Nat → Int32) (j c : Nat) (K : Option Value → gp_H → Prop), gpB W tp n t → gpO (q 6) t W j c → c ≤ j → (∀ W' j' L, gy_cmp (gx_kd tp n) (gx_nu tp n) j = .inr (j', L) → gEF (q 6) W W' c → gpO (q 6) t W' j' (c + L.length) → gc_seg (W' (gp_ma (q 6) + 1)) c L → K none (gv W' u q)) → (∀ W' e p, gy_cmp (gx_kd tp n) (gx_nu tp n) j = .inl (e, p) → gEF (q 6) W W' 0 → gpX (q 6) W' e (gx_sp tp n p) → K none (gv W' u q)) → gp_Go l G (d + 3) m_Pa_check K 106 [some (.ref 55), some (.int xo), some (.int x2), some (.int x3), none] [] (gv W u q) 0 0) ∧
  (∀ (W : Nat → Nat → Int32) (e p : Nat) (K : Option Value → gp_H → Prop), gpB W tp n t → gpX (q 6) W e p → (∀ W', gEF (q 6) W W' 0 → gpX (q 6) W' e p → K none (gv W' u q)) → gp_Go l G (d + 3) m_Pa_check K 106 [some (.ref 55), some (.int xo), some (.int x2), some (.int x3), none] [] (gv W u q) 0 0) := by
  have E1 := gp_expression (l := l) (G := G) (d := d) (u := u) (q := q) (tp := tp) (n := n) (t := t) hm
  have endX : ∀ (W : Nat → Nat → Int32) (e p : Nat) (x4 : Int32) (K : Option Value → gp_H → Prop), gpX (q 6) W e p → (∀ W', gEF (q 6) W W' 0 → gpX (q 6) W' e p → K none (gv W' u q)) → gp_Go l G (d + 3) m_Pa_check K 126 [some (.ref 55), some (.int xo), some (.int x2), some (.int x3), some (.int x4)] [] (gv W u q) 0 0 := by
    intro W e p x4 K hX hK
    refine gp_go od_Pa_check rfl ?_
    (repeat refine gp_gc [23, 41, 106, 116, 126] od_Pa_check rfl rfl ?_)
    by_cases c1 : x4 = 60
    · refine gb_ne_f c1 ?_
      (repeat refine gp_gc [23, 41, 106, 116, 126] od_Pa_check rfl rfl ?_)
      refine gpX_em (d := d + 2) (w := W) hm hX (fun W1 f1 X1 => ?_)
      (repeat refine gp_gc [23, 41, 106, 116, 126] od_Pa_check rfl rfl ?_)
      exact hK W1 f1 X1
    refine gb_ne_t c1 ?_
    (repeat refine gp_gc [23, 41, 106, 116, 126] od_Pa_check rfl rfl ?_)
    by_cases c2 : x4 = 61
    · refine gb_ne_f c2 ?_
      (repeat refine gp_gc [23, 41, 106, 116, 126] od_Pa_check rfl rfl ?_)
      refine gpX_em (d := d + 2) (w := W) hm hX (fun W1 f1 X1 => ?_)
      (repeat refine gp_gc [23, 41, 106, 116, 126] od_Pa_check rfl rfl ?_)
      exact hK W1 f1 X1
    refine gb_ne_t c2 ?_
    (repeat refine gp_gc [23, 41, 106, 116, 126] od_Pa_check rfl rfl ?_)
    refine gpX_em (d := d + 2) (w := W) hm hX (fun W1 f1 X1 => ?_)
    (repeat refine gp_gc [23, 41, 106, 116, 126] od_Pa_check rfl rfl ?_)
    exact hK W1 f1 X1
  -- behind the first expression, with a fault
  have midX : ∀ (W : Nat → Nat → Int32) (e p : Nat) (x4 : Int32) (K : Option Value → gp_H → Prop), gpB W tp n t → gpX (q 6) W e p → (∀ W', gEF (q 6) W W' 0 → gpX (q 6) W' e p → K none (gv W' u q)) → gp_Go l G (d + 3) m_Pa_check K 116 [some (.ref 55), some (.int xo), some (.int x2), some (.int x3), some (.int x4)] [] (gv W u q) 0 0 := by
    intro W e p x4 K B hX hK
    refine gp_go od_Pa_check rfl ?_
    (repeat refine gp_gc [23, 41, 106, 116, 126] od_Pa_check rfl rfl ?_)
    refine gpX_cmp (d := d) hm B hX (fun W1 f1 X1 => ?_)
    (repeat refine gp_gc [23, 41, 106, 116, 126] od_Pa_check rfl rfl ?_)
    refine E1.2 W1 e p _ (gEF_B hm f1 B) X1 (fun W2 f2 X2 => ?_)
    (repeat refine gp_gc [23, 41, 106, 116, 126] od_Pa_check rfl rfl ?_)
    exact endX W2 e p x4 K X2 (fun W3 f3 X3 => hK W3 (gEF_t f1 (gEF_t f2 f3 (Nat.le_refl 0)) (Nat.le_refl 0)) X3)
  constructor
  · intro W j c K B hO hcj hS hF
    have hC := gy_cmp_s (kd := gx_kd tp n) (nm := gx_nu tp n) (j := j)
    have ht := B.2.1
    refine gp_go od_Pa_check rfl ?_
    (repeat refine gp_gc [23, 41, 106, 116, 126] od_Pa_check rfl rfl ?_)
    refine E1.1 W j c _ B hO hcj (fun W1 j1 U e1 f1 O1 s1 => ?_) (fun W1 e p e1 f1 X1 => ?_)
    · rw [e1, gyb_r] at hC
      have g1 := gy_E_g _ _ _ _ _ e1
      have B1 := gEF_B hm f1 B
      (repeat refine gp_gc [23, 41, 106, 116, 126] od_Pa_check rfl rfl ?_)
      refine sp_Pa_kind (d := d + 2) (w := W1) B1 (fun k _ hk => ?_)
      have hk := hk j1 O1.1 O1.2.1
      subst hk
      (repeat refine gp_gc [23, 41, 106, 116, 126] od_Pa_check rfl rfl ?_)
      refine gp_go od_Pa_check rfl ?_
      (repeat refine gp_gc [23, 41, 106, 116, 126] od_Pa_check rfl rfl ?_)
      refine gpO_cmp (d := d) (w := W1) hm B1 O1 (by omega) (fun c1 W2 f2 O2 => ?_) (fun c0 W2 f2 X2 => ?_)
      · rw [if_pos c1] at hC
        have B2 := gEF_B hm f2 B1
        (repeat refine gp_gc [23, 41, 106, 116, 126] od_Pa_check rfl rfl ?_)
        refine E1.1 W2 (j1 + 1) (c + U.length) _ B2 O2 (by omega) (fun W3 j3 V e3 f3 O3 s3 => ?_) (fun W3 e p e3 f3 X3 => ?_)
        · rw [e3, gyb_r] at hC
          have g3 := gy_E_g _ _ _ _ _ e3
          have hj3 := O3.2.1
          have f23 := gEF_t f2 f3 (Nat.le_refl _)
          have s13 := gc_seg_2 s1 f23.2.2.2 s3
          have e13 : c + U.length + V.length = c + (U ++ V).length := by rw [List.length_append, Nat.add_assoc]
          rw [e13] at O3
          have fin : ∀ (W4 : Nat → Nat → Int32), gEF (q 6) W3 W4 (c + (U ++ V).length) → gpO (q 6) t W4 j3 (c + (U ++ V).length + 1) → gc_seg (W4 (gp_ma (q 6) + 1)) (c + (U ++ V).length) [(gx_kd tp n j1 - 42, 0)] → K none (gv W4 u q) := by
            intro W4 f4 O4 s4
            have s5 := gc_seg_2 s13 f4.2.2.2 s4
            have el2 : c + (U ++ V ++ [(gx_kd tp n j1 - 42, (0 : Int32))]).length = c + (U ++ V).length + 1 := by rw [List.length_append (as := U ++ V)]; rfl
            exact hS W4 j3 _ hC (gEF_t f1 (gEF_t f23 f4 (by rw [← e13]; omega)) (by omega)) (by rw [el2]; exact O4) s5
          (repeat refine gp_gc [23, 41, 106, 116, 126] od_Pa_check rfl rfl ?_)
          refine gp_go od_Pa_check rfl ?_
          (repeat refine gp_gc [23, 41, 106, 116, 126] od_Pa_check rfl rfl ?_)
          by_cases c2 : gx_kd tp n j1 = 60
          · refine gb_ne_f (by rw [c2]; rfl) ?_
            (repeat refine gp_gc [23, 41, 106, 116, 126] od_Pa_check rfl rfl ?_)
            refine gpO_em (d := d + 2) (w := W3) (op := 6) (v := 0) (k := 18) (x := 0) hm O3 (by omega) (by decide) (by decide) (by decide) (gc_oc_o (k := 18) (by decide)) (fun z => absurd z (by decide)) (fun _ z => absurd z (by decide)) (fun W4 f4 O4 s4 => ?_)
            (repeat refine gp_gc [23, 41, 106, 116, 126] od_Pa_check rfl rfl ?_)
            exact fin W4 f4 O4 (by rw [c2]; exact s4)
          refine gb_ne_t (fun z => c2 ((nI_eq (b := 60) (by omega) (by decide)).mp z)) ?_
          (repeat refine gp_gc [23, 41, 106, 116, 126] od_Pa_check rfl rfl ?_)
          by_cases c3 : gx_kd tp n j1 = 61
          · refine gb_ne_f (by rw [c3]; rfl) ?_
            (repeat refine gp_gc [23, 41, 106, 116, 126] od_Pa_check rfl rfl ?_)
            refine gpO_em (d := d + 2) (w := W3) (op := 7) (v := 0) (k := 19) (x := 0) hm O3 (by omega) (by decide) (by decide) (by decide) (gc_oc_o (k := 19) (by decide)) (fun z => absurd z (by decide)) (fun _ z => absurd z (by decide)) (fun W4 f4 O4 s4 => ?_)
            (repeat refine gp_gc [23, 41, 106, 116, 126] od_Pa_check rfl rfl ?_)
            exact fin W4 f4 O4 (by rw [c3]; exact s4)
          refine gb_ne_t (fun z => c3 ((nI_eq (b := 61) (by omega) (by decide)).mp z)) ?_
          (repeat refine gp_gc [23, 41, 106, 116, 126] od_Pa_check rfl rfl ?_)
          refine gpO_em (d := d + 2) (w := W3) (op := 8) (v := 0) (k := 20) (x := 0) hm O3 (by omega) (by decide) (by decide) (by decide) (gc_oc_o (k := 20) (by decide)) (fun z => absurd z (by decide)) (fun _ z => absurd z (by decide)) (fun W4 f4 O4 s4 => ?_)
          (repeat refine gp_gc [23, 41, 106, 116, 126] od_Pa_check rfl rfl ?_)
          exact fin W4 f4 O4 (by rw [show gx_kd tp n j1 = 62 by omega]; exact s4)
        · rw [e3] at hC
          (repeat refine gp_gc [23, 41, 106, 116, 126] od_Pa_check rfl rfl ?_)
          exact endX W3 e _ _ K X3 (fun W4 f4 X4 => hF W4 e p hC (gEF_t (gEF_t (gEF_0 f1) (gEF_t (gEF_0 f2) f3 (Nat.le_refl 0)) (Nat.le_refl 0)) f4 (Nat.le_refl 0)) X4)
      · rw [if_neg c0] at hC
        (repeat refine gp_gc [23, 41, 106, 116, 126] od_Pa_check rfl rfl ?_)
        refine E1.2 W2 1 _ _ (gEF_B hm f2 B1) X2 (fun W3 f3 X3 => ?_)
        (repeat refine gp_gc [23, 41, 106, 116, 126] od_Pa_check rfl rfl ?_)
        exact endX W3 1 _ _ K X3 (fun W4 f4 X4 => hF W4 1 j1 hC (gEF_t (gEF_t (gEF_0 f1) (gEF_t f2 f3 (Nat.le_refl 0)) (Nat.le_refl 0)) f4 (Nat.le_refl 0)) X4)
    · rw [e1] at hC
      have B1 := gEF_B hm f1 B
      (repeat refine gp_gc [23, 41, 106, 116, 126] od_Pa_check rfl rfl ?_)
      refine sp_Pa_kind (d := d + 2) (w := W1) B1 (fun k _ _ => ?_)
      (repeat refine gp_gc [23, 41, 106, 116, 126] od_Pa_check rfl rfl ?_)
      refine midX W1 e _ k K B1 X1 (fun W2 f2 X2 => hF W2 e p hC (gEF_t f1 f2 (Nat.le_refl 0)) X2)
  · intro W e p K B hX hK
    refine gp_go od_Pa_check rfl ?_
    (repeat refine gp_gc [23, 41, 106, 116, 126] od_Pa_check rfl rfl ?_)
    refine E1.2 W e p _ B hX (fun W1 f1 X1 => ?_)
    (repeat refine gp_gc [23, 41, 106, 116, 126] od_Pa_check rfl rfl ?_)
    refine sp_Pa_kind (d := d + 2) (w := W1) (gEF_B hm f1 B) (fun k _ _ => ?_)
    (repeat refine gp_gc [23, 41, 106, 116, 126] od_Pa_check rfl rfl ?_)
    refine midX W1 e _ k K (gEF_B hm f1 B) X1 (fun W2 f2 X2 => hK W2 (gEF_t f1 f2 (Nat.le_refl 0)) X2)
end

end
