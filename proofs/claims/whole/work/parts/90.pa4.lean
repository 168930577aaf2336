section
variable {l : Launch} {G : gp_G} {d : Nat} {w : Nat → Nat → Int32} {u : Int64 × (Nat → Int64)} {q : Nat → Nat} {K : Option Value → gp_H → Prop}
/-! ===== the class's parser: what holds all at once ===== -/
theorem gx_kd_33 (tp : Nat → Nat) (n j : Nat) : gx_kd tp n j ≠ 33 := by
  unfold gx_kd gx_k
  generalize gx_p tp n j = p
  split
  · decide
  · split
    · have := gx_kw_b (gx_sub tp (gx_s tp n p) (gx_e tp n p))
      omega
    · split
      · split <;> decide
      · split
        · rename_i c3
          unfold gx_sg at c3
          have := of_decide_eq_true c3
          omega
        · decide
theorem gy_L_s {kd : Nat → Nat} {sub : Nat → gy} {k op f j : Nat} {L : gf_L} : gy_L kd sub k op (f + 1) j L = if kd j = k then gyb (sub (j + 1)) (fun j' U => gy_L kd sub k op f j' (L ++ U ++ [(op, 0)])) else .inr (j, L) := by
  rw [gy_L]
  by_cases c1 : kd j = k
  · rw [if_pos c1, if_pos c1]
    cases sub (j + 1) <;> rfl
  rw [if_neg c1, if_neg c1]
theorem gy_L_stop {kd : Nat → Nat} {sub : Nat → gy} {k op f j : Nat} {L : gf_L} (h : kd j ≠ k) : gy_L kd sub k op f j L = .inr (j, L) := by
  cases f with
  | zero => rfl
  | succ f => rw [gy_L_s, if_neg h]
theorem gy_ev_s {kd : Nat → Nat} {one : Nat → gy} {j : Nat} : gy_ev kd one j = gyb (one j) (fun j' U => gy_L kd one 7 22 (600 - j') j' U) := by
  unfold gy_ev
  cases one j <;> rfl
theorem gy_an_s {kd : Nat → Nat} {one : Nat → gy} {j : Nat} : gy_an kd one j = gyb (gy_ev kd one j) (fun j' U => gy_L kd (gy_ev kd one) 6 23 (600 - j') j' U) := by
  unfold gy_an
  cases gy_ev kd one j <;> rfl
theorem gy_L_f {kd : Nat → Nat} {sub : Nat → gy} (hs : gy_G kd sub) {k op : Nat} (hk : k ≠ 31) (h31 : ∀ j, 501 ≤ j → kd j = 31) : ∀ (f f' j : Nat) (L : gf_L), 501 ≤ f + j → 501 ≤ f' + j → gy_L kd sub k op f j L = gy_L kd sub k op f' j L := by
  intro f
  induction f with
  | zero =>
    intro f' j L h1 h2
    have e := h31 j (by omega)
    rw [gy_L_stop (by omega), gy_L_stop (by omega)]
  | succ f ih =>
    intro f' j L h1 h2
    cases f' with
    | zero =>
      have e := h31 j (by omega)
      rw [gy_L_stop (by omega), gy_L_stop (by omega)]
    | succ f' =>
      rw [gy_L_s, gy_L_s]
      by_cases c1 : kd j = k
      · rw [if_pos c1, if_pos c1]
        cases e : sub (j + 1) with
        | inl e => rfl
        | inr p =>
          have := hs (j + 1) p.1 p.2 e
          exact ih f' p.1 _ (by omega) (by omega)
      rw [if_neg c1, if_neg c1]
/-- what is left of a condition: A stands, wt waits, Lp is what holds at once so far -/
def gy_RC (kd : Nat → Nat) (one : Nat → gy) (A wt Lp : gf_L) (j : Nat) : gy := gyb (gy_L kd one 7 22 (600 - j) j Lp) (fun j' L => gy_L kd (gy_ev kd one) 6 23 (600 - j') j' (A ++ L ++ wt))
theorem gy_RC_0 {kd : Nat → Nat} {one : Nat → gy} (j : Nat) : gy_an kd one j = gyb (one j) (fun j' U => gy_RC kd one [] [] U j') := by
  unfold gy_RC
  rw [gy_an_s, gy_ev_s, gyb_b]
  simp only [List.nil_append, List.append_nil]
theorem gy_RC_n {kd : Nat → Nat} {one : Nat → gy} (hs : gy_G kd one) (h31 : ∀ j, 501 ≤ j → kd j = 31) {A wt Lp : gf_L} {j : Nat} (c : kd j = 7) : gy_RC kd one A wt Lp j = gyb (one (j + 1)) (fun j' U => gy_RC kd one A wt (Lp ++ U ++ [(22, 0)]) j') := by
  have hj : j < 501 := Nat.not_le.mp (fun z => by have := h31 j z; omega)
  unfold gy_RC
  rw [show 600 - j = (599 - j) + 1 by omega, gy_L_s, if_pos c, gyb_b]
  cases e : one (j + 1) with
  | inl e => rfl
  | inr p =>
    have := hs (j + 1) p.1 p.2 e
    rw [gyb_r, gyb_r]
    rw [gy_L_f hs (by decide) h31 (599 - j) (600 - p.1) p.1 _ (by omega) (by omega)]
theorem gy_RC_o {kd : Nat → Nat} {one : Nat → gy} (hs : gy_G kd one) (h31 : ∀ j, 501 ≤ j → kd j = 31) {A wt Lp : gf_L} {j : Nat} (c : kd j = 6) : gy_RC kd one A wt Lp j = gyb (one (j + 1)) (fun j' U => gy_RC kd one (A ++ Lp ++ wt) [(23, 0)] U j') := by
  have hj : j < 501 := Nat.not_le.mp (fun z => by have := h31 j z; omega)
  unfold gy_RC
  rw [gy_L_stop (by omega)]
  show gy_L kd (gy_ev kd one) 6 23 (600 - j) j (A ++ Lp ++ wt) = _
  rw [show 600 - j = (599 - j) + 1 by omega, gy_L_s, if_pos c, gy_ev_s, gyb_b]
  cases e : one (j + 1) with
  | inl e => rfl
  | inr p =>
    have g1 := hs (j + 1) p.1 p.2 e
    rw [gyb_r, gyb_r]
    cases e2 : gy_L kd one 7 22 (600 - p.1) p.1 p.2 with
    | inl e => rfl
    | inr r =>
      have g2 := gy_L_g hs (600 - p.1) p.1 p.2 r.1 r.2 e2
      exact gy_L_f (gy_ev_g hs) (by decide) h31 _ _ r.1 _ (by omega) (by omega)
theorem gy_RC_e {kd : Nat → Nat} {one : Nat → gy} {A wt Lp : gf_L} {j : Nat} (h1 : kd j ≠ 7) (h2 : kd j ≠ 6) : gy_RC kd one A wt Lp j = .inr (j, A ++ Lp ++ wt) := by
  unfold gy_RC
  rw [gy_L_stop h1]
  exact gy_L_stop h2
def gy_wo (wt : gf_L) (x : Int32) : Prop := (wt = [] ∧ x = 0) ∨ (wt = [(23, 0)] ∧ x = 1)
section
variable {tp : Nat → Nat} {n t : Nat}
set_option maxRecDepth 100000 in
theorem gp_cond (hm : q 6 < 7) {one : Nat → gy} {xo : Int32} (hs : gy_G (gx_kd tp n) one) (U1 : gpC l G u q tp n t m_Pa_check [.ref 55, .int xo] d one) : gpC l G u q tp n t m_Pa_condition [.ref 55, .int xo] (d + 1) (gy_an (gx_kd tp n) one) := by
  -- the end, behind a fault
  have endX : ∀ (W : Nat → Nat → Int32) (e p : Nat) (x y : Int32) (K : Option Value → gp_H → Prop), gpX (q 6) W e p → (∀ W', gEF (q 6) W W' 0 → gpX (q 6) W' e p → K none (gv W' u q)) → gp_Go l G (d + 1) m_Pa_condition K 100 [some (.ref 55), some (.int xo), some (.int x), some (.int y)] [] (gv W u q) 0 0 := by
    intro W e p x y K hX hK
    refine gp_go od_Pa_condition rfl ?_
    (repeat refine gp_gc [9, 77, 100] od_Pa_condition rfl rfl ?_)
    by_cases c : x = 0
    · refine gb1_eq_t c ?_
      (repeat refine gp_gc [9, 77, 100] od_Pa_condition rfl rfl ?_)
      exact hK W (gEF_r W 0) hX
    · refine gb1_eq_f c ?_
      (repeat refine gp_gc [9, 77, 100] od_Pa_condition rfl rfl ?_)
      refine gpX_em (d := d) (w := W) hm hX (fun W1 f1 X1 => ?_)
      (repeat refine gp_gc [9, 77, 100] od_Pa_condition rfl rfl ?_)
      exact hK W1 f1 X1
  have headX : ∀ (W : Nat → Nat → Int32) (e p : Nat) (x y : Int32) (K : Option Value → gp_H → Prop), gpX (q 6) W e p → (∀ W', gEF (q 6) W W' 0 → gpX (q 6) W' e p → K none (gv W' u q)) → gp_Go l G (d + 1) m_Pa_condition K 9 [some (.ref 55), some (.int xo), some (.int x), some (.int y)] [] (gv W u q) 0 0 := by
    intro W e p x y K hX hK
    refine gp_go od_Pa_condition rfl ?_
    (repeat refine gp_gc [9, 77, 100] od_Pa_condition rfl rfl ?_)
    by_cases c : 500 < y
    · refine gb_gt_t c ?_
      (repeat refine gp_gc [9, 77, 100] od_Pa_condition rfl rfl ?_)
      exact endX W e p x y K hX hK
    · refine gb_gt_f c ?_
      (repeat refine gp_gc [9, 77, 100] od_Pa_condition rfl rfl ?_)
      refine gb1_ne_t (gpX_f hX) ?_
      (repeat refine gp_gc [9, 77, 100] od_Pa_condition rfl rfl ?_)
      exact endX W e p x y K hX hK
  constructor
  · intro W0 j0 c K B0 hO0 hcj hS hF
    have h31 := gy_31 B0
    have ht := B0.2.1
    have main : ∀ (r j i : Nat) (W : Nat → Nat → Int32) (A wt Lp : gf_L) (x : Int32), 600 ≤ j + r → i ≤ j → gy_an (gx_kd tp n) one j0 = gy_RC (gx_kd tp n) one A wt Lp j → gEF (q 6) W0 W c → gpO (q 6) t W j (c + (A ++ Lp).length) → gc_seg (W (gp_ma (q 6) + 1)) c (A ++ Lp) → gy_wo wt x → c + (A ++ Lp).length + wt.length ≤ j → gp_Go l G (d + 1) m_Pa_condition K 9 [some (.ref 55), some (.int xo), some (.int x), some (.int (nI i))] [] (gv W u q) 0 0 := by
      intro r
      induction r with
      | zero =>
        intro j i W A wt Lp x hr hij hE f0 hO hseg hwt hlen
        have := hO.2.1
        omega
      | succ r ih =>
        intro j i W A wt Lp x hr hij hE f0 hO hseg hwt hlen
        have hjt := hO.2.1
        have B := gEF_B hm f0 B0
        have kb := gx_kd_b tp n j
        have inci : nI i + Int32.ofInt 1 = nI (i + 1) := gp_inc rfl
        -- behind an or
        have at77 : ∀ (W1 : Nat → Nat → Int32) (A1 : gf_L) (x1 : Int32), j < t → gEF (q 6) W0 W1 c → gpO (q 6) t W1 j (c + A1.length) → gc_seg (W1 (gp_ma (q 6) + 1)) c A1 → c + A1.length ≤ j → gy_an (gx_kd tp n) one j0 = gyb (one (j + 1)) (fun j' U => gy_RC (gx_kd tp n) one A1 [(23, 0)] U j') → gp_Go l G (d + 1) m_Pa_condition K 77 [some (.ref 55), some (.int xo), some (.int x1), some (.int (nI i))] [] (gv W1 u q) 0 0 := by
          intro W1 A1 x1 hj f1 hO1 s1 l1 hE1
          refine gp_go od_Pa_condition rfl ?_
          (repeat refine gp_gc [9, 77, 100] od_Pa_condition rfl rfl ?_)
          have B1 := gEF_B hm f1 B0
          have g1 : gEF (q 6) W1 (gw W1 55 6 (W1 55 6 + 1)) (c + A1.length) := gEF_55 hm (gEF_r W1 _) (by omega)
          refine U1.1 (gw W1 55 6 (W1 55 6 + 1)) (j + 1) _ _ (gEF_B hm g1 B1) (gpO_at hm hO1 hj) (by omega) (fun W2 j2 U e2 f2 O2 s2 => ?_) (fun W2 e p e2 f2 X2 => ?_)
          · rw [e2] at hE1
            have g2 := hs _ _ _ e2
            (repeat refine gp_gc [9, 77, 100] od_Pa_condition rfl rfl ?_)
            rw [inci]
            have f12 := gEF_t g1 f2 (Nat.le_refl _)
            refine ih j2 (i + 1) W2 A1 [(23, 0)] U _ (by omega) (by omega) hE1 (gEF_t f1 f12 (by omega)) (by rw [List.length_append, ← Nat.add_assoc]; exact O2) (gc_seg_2 s1 f12.2.2.2 s2) (Or.inr ⟨rfl, rfl⟩) (by simp only [List.length_append, List.length_cons, List.length_nil]; omega)
          · rw [e2] at hE1
            (repeat refine gp_gc [9, 77, 100] od_Pa_condition rfl rfl ?_)
            rw [inci]
            refine headX W2 e _ _ _ K X2 (fun W4 f4 X4 => ?_)
            exact hF W4 e p hE1 (gEF_t (gEF_t (gEF_0 f1) (gEF_t (gEF_0 g1) f2 (Nat.le_refl 0)) (Nat.le_refl 0)) f4 (Nat.le_refl 0)) X4
        refine gp_go od_Pa_condition rfl ?_
        (repeat refine gp_gc [9, 77, 100] od_Pa_condition rfl rfl ?_)
        refine gb_gt_f (nI_nlt (a := 500) (by omega) (by decide)) ?_
        (repeat refine gp_gc [9, 77, 100] od_Pa_condition rfl rfl ?_)
        refine gb1_ne_f hO.2.2.1 ?_
        (repeat refine gp_gc [9, 77, 100] od_Pa_condition rfl rfl ?_)
        refine sp_Pa_kind (d := d) (w := W) B (fun k _ hk => ?_)
        have hk := hk j hO.1 hjt
        subst hk
        (repeat refine gp_gc [9, 77, 100] od_Pa_condition rfl rfl ?_)
        have O1 : j < t → gpO (q 6) t (gw W 55 6 (W 55 6 + 1)) (j + 1) (c + (A ++ Lp).length) := gpO_at hm hO
        have g1 : gEF (q 6) W (gw W 55 6 (W 55 6 + 1)) (c + (A ++ Lp).length) := gEF_55 hm (gEF_r W _) (by omega)
        by_cases c1 : gx_kd tp n j = 7
        · have hj : j < t := gpB_lt B (by omega)
          rw [gy_RC_n hs h31 c1] at hE
          refine gb_ne_f (by rw [c1]; rfl) ?_
          (repeat refine gp_gc [9, 77, 100] od_Pa_condition rfl rfl ?_)
          refine U1.1 (gw W 55 6 (W 55 6 + 1)) (j + 1) _ _ (gEF_B hm g1 B) (O1 hj) (by omega) (fun W2 j2 U e2 f2 O2 s2 => ?_) (fun W2 e p e2 f2 X2 => ?_)
          · rw [e2] at hE
            have g2 := hs _ _ _ e2
            have hj2 : j2 ≤ 500 := by have := O2.2.1; omega
            have f12 := gEF_t g1 f2 (Nat.le_refl _)
            (repeat refine gp_gc [9, 77, 100] od_Pa_condition rfl rfl ?_)
            refine gpO_em (d := d) (w := W2) (op := 10) (v := 0) (k := 22) (x := 0) hm O2 (by omega) (by decide) (by decide) (by decide) (gc_oc_o (k := 22) (by decide)) (fun z => absurd z (by decide)) (fun _ z => absurd z (by decide)) (fun W3 f3 O3 s3 => ?_)
            (repeat refine gp_gc [9, 77, 100] od_Pa_condition rfl rfl ?_)
            rw [inci]
            have s13 := gc_seg_2 hseg f12.2.2.2 s2
            have e13 : c + (A ++ Lp).length + U.length = c + (A ++ Lp ++ U).length := by rw [List.length_append (as := A ++ Lp), Nat.add_assoc]
            rw [e13] at f3 O3 s3
            have s4 := gc_seg_2 s13 f3.2.2.2 s3
            have el : A ++ (Lp ++ U ++ [(22, 0)]) = A ++ Lp ++ U ++ [(22, 0)] := by simp only [List.append_assoc]
            have el2 : c + (A ++ Lp ++ U ++ [((22 : Nat), (0 : Int32))]).length = c + (A ++ Lp ++ U).length + 1 := by rw [List.length_append (as := A ++ Lp ++ U)]; rfl
            refine ih j2 (i + 1) W3 A wt (Lp ++ U ++ [(22, 0)]) x (by omega) (by omega) hE (gEF_t f0 (gEF_t f12 f3 (by omega)) (by omega)) (by rw [el, el2]; exact O3) (by rw [el]; exact s4) hwt (by rw [el, el2]; omega)
          · rw [e2] at hE
            (repeat refine gp_gc [9, 77, 100] od_Pa_condition rfl rfl ?_)
            refine gpX_em (d := d) (w := W2) hm X2 (fun W3 f3 X3 => ?_)
            (repeat refine gp_gc [9, 77, 100] od_Pa_condition rfl rfl ?_)
            rw [inci]
            refine headX W3 e _ _ _ K X3 (fun W4 f4 X4 => ?_)
            exact hF W4 e p hE (gEF_t (gEF_t (gEF_t (gEF_0 f0) (gEF_t (gEF_0 g1) f2 (Nat.le_refl 0)) (Nat.le_refl 0)) f3 (Nat.le_refl 0)) f4 (Nat.le_refl 0)) X4
        refine gb_ne_t (fun z => c1 ((nI_eq (b := 7) (by omega) (by decide)).mp z)) ?_
        (repeat refine gp_gc [9, 77, 100] od_Pa_condition rfl rfl ?_)
        refine sp_Pa_kind (d := d) (w := W) B (fun k _ hk => ?_)
        have hk := hk j hO.1 hjt
        subst hk
        (repeat refine gp_gc [9, 77, 100] od_Pa_condition rfl rfl ?_)
        by_cases c2 : gx_kd tp n j = 6
        · have hj : j < t := gpB_lt B (by omega)
          rw [gy_RC_o hs h31 c2] at hE
          refine gb_ne_f (by rw [c2]; rfl) ?_
          (repeat refine gp_gc [9, 77, 100] od_Pa_condition rfl rfl ?_)
          rcases hwt with ⟨w1, w2⟩ | ⟨w1, w2⟩
          · subst w1 w2
            refine gb1_eq_t rfl ?_
            (repeat refine gp_gc [9, 77, 100] od_Pa_condition rfl rfl ?_)
            rw [List.append_nil] at hE
            exact at77 W (A ++ Lp) _ hj f0 hO hseg hlen hE
          · subst w1 w2
            refine gb1_eq_f (by decide) ?_
            (repeat refine gp_gc [9, 77, 100] od_Pa_condition rfl rfl ?_)
            refine gpO_em (d := d) (w := W) (op := 11) (v := 0) (k := 23) (x := 0) hm hO (by simp only [List.length_cons, List.length_nil] at hlen; omega) (by decide) (by decide) (by decide) (gc_oc_o (k := 23) (by decide)) (fun z => absurd z (by decide)) (fun _ z => absurd z (by decide)) (fun W3 f3 O3 s3 => ?_)
            (repeat refine gp_gc [9, 77, 100] od_Pa_condition rfl rfl ?_)
            have el2 : c + (A ++ Lp ++ [((23 : Nat), (0 : Int32))]).length = c + (A ++ Lp).length + 1 := by rw [List.length_append (as := A ++ Lp)]; rfl
            exact at77 W3 (A ++ Lp ++ [(23, 0)]) _ hj (gEF_t f0 f3 (by omega)) (by rw [el2]; exact O3) (gc_seg_2 hseg f3.2.2.2 s3) (by rw [el2]; exact hlen) hE
        · rw [gy_RC_e c1 c2] at hE
          refine gb_ne_t (fun z => c2 ((nI_eq (b := 6) (by omega) (by decide)).mp z)) ?_
          (repeat refine gp_gc [9, 77, 100] od_Pa_condition rfl rfl ?_)
          refine gp_go od_Pa_condition rfl ?_
          (repeat refine gp_gc [9, 77, 100] od_Pa_condition rfl rfl ?_)
          rcases hwt with ⟨w1, w2⟩ | ⟨w1, w2⟩
          · subst w1 w2
            refine gb1_eq_t rfl ?_
            (repeat refine gp_gc [9, 77, 100] od_Pa_condition rfl rfl ?_)
            rw [List.append_nil] at hE
            exact hS W j _ hE f0 hO hseg
          · subst w1 w2
            refine gb1_eq_f (by decide) ?_
            (repeat refine gp_gc [9, 77, 100] od_Pa_condition rfl rfl ?_)
            refine gpO_em (d := d) (w := W) (op := 11) (v := 0) (k := 23) (x := 0) hm hO (by simp only [List.length_cons, List.length_nil] at hlen; omega) (by decide) (by decide) (by decide) (gc_oc_o (k := 23) (by decide)) (fun z => absurd z (by decide)) (fun _ z => absurd z (by decide)) (fun W3 f3 O3 s3 => ?_)
            (repeat refine gp_gc [9, 77, 100] od_Pa_condition rfl rfl ?_)
            have el2 : c + (A ++ Lp ++ [((23 : Nat), (0 : Int32))]).length = c + (A ++ Lp).length + 1 := by rw [List.length_append (as := A ++ Lp)]; rfl
            exact hS W3 j _ hE (gEF_t f0 f3 (by omega)) (by rw [el2]; exact O3) (gc_seg_2 hseg f3.2.2.2 s3)
    have hE0 := gy_RC_0 (kd := gx_kd tp n) (one := one) j0
    have hj0 := hO0.2.1
    refine gp_enter od_Pa_condition rfl ?_
    (repeat refine gp_gc [9, 77, 100] od_Pa_condition rfl rfl ?_)
    refine U1.1 W0 j0 c _ B0 hO0 hcj (fun W2 j2 U e2 f2 O2 s2 => ?_) (fun W2 e p e2 f2 X2 => ?_)
    · rw [e2] at hE0
      have g2 := hs _ _ _ e2
      have := O2.2.1
      (repeat refine gp_gc [9, 77, 100] od_Pa_condition rfl rfl ?_)
      exact main (600 - j2) j2 0 W2 [] [] U _ (by omega) (by omega) hE0 f2 O2 s2 (Or.inl ⟨rfl, rfl⟩) (by simp only [List.nil_append, List.length_nil]; omega)
    · rw [e2] at hE0
      (repeat refine gp_gc [9, 77, 100] od_Pa_condition rfl rfl ?_)
      refine headX W2 e _ _ _ K X2 (fun W4 f4 X4 => ?_)
      exact hF W4 e p hE0 (gEF_t f2 f4 (Nat.le_refl 0)) X4
  · intro W e p K B hX hK
    refine gp_enter od_Pa_condition rfl ?_
    (repeat refine gp_gc [9, 77, 100] od_Pa_condition rfl rfl ?_)
    refine U1.2 W e p _ B hX (fun W1 f1 X1 => ?_)
    (repeat refine gp_gc [9, 77, 100] od_Pa_condition rfl rfl ?_)
    refine headX W1 e p _ _ K X1 (fun W2 f2 X2 => hK W2 (gEF_t f1 f2 (Nat.le_refl 0)) X2)
end

end
