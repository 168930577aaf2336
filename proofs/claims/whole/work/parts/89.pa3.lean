section
variable {l : Launch} {G : gp_G} {d : Nat} {w : Nat → Nat → Int32} {u : Int64 × (Nat → Int64)} {q : Nat → Nat} {K : Option Value → gp_H → Prop}
/-! ===== the class's parser: expressions ===== -/
def gyb (r : gy) (k : Nat → gf_L → gy) : gy := match r with
  | .inl e => .inl e
  | .inr p => k p.1 p.2
theorem gyb_b (r : gy) (k k2 : Nat → gf_L → gy) : gyb (gyb r k) k2 = gyb r (fun j U => gyb (k j U) k2) := by cases r <;> rfl
theorem gyb_r {p : Nat × gf_L} {k : Nat → gf_L → gy} : gyb (.inr p) k = k p.1 p.2 := rfl
theorem gEF_0 {m c : Nat} {w W : Nat → Nat → Int32} (h : gEF m w W c) : gEF m w W 0 := ⟨h.1, h.2.1, h.2.2.1, fun _ z => absurd z (Nat.not_lt_zero _)⟩
section
variable {tp : Nat → Nat} {n t : Nat}
theorem gy_T_s {kd nm : Nat → Nat} {f j : Nat} {L : gf_L} : gy_T kd nm (f + 1) j L = if kd j = 42 then gyb (gy_unit kd nm (j + 1)) (fun j' U => gy_T kd nm f j' (L ++ U ++ [(16, 0)])) else if kd j = 47 then gyb (gy_part kd nm (j + 1)) (fun j' U => gy_T kd nm f j' (L ++ U)) else .inr (j, L) := by
  rw [gy_T]
  by_cases c1 : kd j = 42
  · rw [if_pos c1, if_pos c1]
    cases gy_unit kd nm (j + 1) <;> rfl
  rw [if_neg c1, if_neg c1]
  by_cases c2 : kd j = 47
  · rw [if_pos c2, if_pos c2]
    unfold gy_part
    by_cases c3 : kd (j + 1) = 30
    · rw [if_pos c3, if_pos c3]
      by_cases c4 : nm (j + 1) = 0
      · rw [if_pos c4, if_pos c4]; rfl
      · rw [if_neg c4, if_neg c4]; rfl
    · rw [if_neg c3, if_neg c3]; rfl
  rw [if_neg c2, if_neg c2]
theorem gy_EL_s {kd nm : Nat → Nat} {f j : Nat} {L : gf_L} : gy_EL kd nm (f + 1) j L = if kd j = 43 ∨ kd j = 45 then gyb (gy_P kd nm (j + 1)) (fun j' U => gy_EL kd nm f j' (L ++ U ++ [(if kd j = 43 then 14 else 15, 0)])) else .inr (j, L) := by
  rw [gy_EL]
  by_cases c1 : kd j = 43 ∨ kd j = 45
  · rw [if_pos c1, if_pos c1]
    cases gy_P kd nm (j + 1) <;> rfl
  rw [if_neg c1, if_neg c1]
theorem gy_P_s {kd nm : Nat → Nat} {j : Nat} : gy_P kd nm j = gyb (gy_unit kd nm j) (fun j' U => gy_T kd nm (600 - j') j' U) := by
  unfold gy_P
  cases gy_unit kd nm j <;> rfl
theorem gy_E_s {kd nm : Nat → Nat} {j : Nat} : gy_E kd nm j = gyb (gy_P kd nm j) (fun j' U => gy_EL kd nm (600 - j') j' U) := by
  unfold gy_E
  cases gy_P kd nm j <;> rfl
theorem gy_T_stop {kd nm : Nat → Nat} {f j : Nat} {L : gf_L} (h1 : kd j ≠ 42) (h2 : kd j ≠ 47) : gy_T kd nm f j L = .inr (j, L) := by
  cases f with
  | zero => rfl
  | succ f => rw [gy_T_s, if_neg h1, if_neg h2]
theorem gy_EL_stop {kd nm : Nat → Nat} {f j : Nat} {L : gf_L} (h1 : ¬ (kd j = 43 ∨ kd j = 45)) : gy_EL kd nm f j L = .inr (j, L) := by
  cases f with
  | zero => rfl
  | succ f => rw [gy_EL_s, if_neg h1]
theorem gy_part_g {kd nm : Nat → Nat} {j j' : Nat} {U : gf_L} (e : gy_part kd nm j = .inr (j', U)) : j' = j + 1 ∧ U.length = 1 := by
  unfold gy_part at e
  split at e
  · split at e
    · cases e
    · cases e; exact ⟨rfl, rfl⟩
  · cases e
/-- how much fuel there is doesn't matter -/
theorem gy_T_f {kd nm : Nat → Nat} (h31 : ∀ j, 501 ≤ j → kd j = 31) : ∀ (f f' j : Nat) (L : gf_L), 501 ≤ f + j → 501 ≤ f' + j → gy_T kd nm f j L = gy_T kd nm f' j L := by
  intro f
  induction f with
  | zero =>
    intro f' j L h1 h2
    have k := h31 j (by omega)
    rw [gy_T_stop (by omega) (by omega), gy_T_stop (by omega) (by omega)]
  | succ f ih =>
    intro f' j L h1 h2
    cases f' with
    | zero =>
      have k := h31 j (by omega)
      rw [gy_T_stop (by omega) (by omega), gy_T_stop (by omega) (by omega)]
    | succ f' =>
      rw [gy_T_s, gy_T_s]
      by_cases c1 : kd j = 42
      · rw [if_pos c1, if_pos c1]
        cases e : gy_unit kd nm (j + 1) with
        | inl e => rfl
        | inr p =>
          have := gy_unit_g kd nm (j + 1) p.1 p.2 e
          exact ih f' p.1 _ (by omega) (by omega)
      rw [if_neg c1, if_neg c1]
      by_cases c2 : kd j = 47
      · rw [if_pos c2, if_pos c2]
        cases e : gy_part kd nm (j + 1) with
        | inl e => rfl
        | inr p =>
          have := gy_part_g (j' := p.1) (U := p.2) e
          exact ih f' p.1 _ (by omega) (by omega)
      rw [if_neg c2, if_neg c2]
theorem gy_EL_f {kd nm : Nat → Nat} (h31 : ∀ j, 501 ≤ j → kd j = 31) : ∀ (f f' j : Nat) (L : gf_L), 501 ≤ f + j → 501 ≤ f' + j → gy_EL kd nm f j L = gy_EL kd nm f' j L := by
  intro f
  induction f with
  | zero =>
    intro f' j L h1 h2
    have k := h31 j (by omega)
    rw [gy_EL_stop (by omega), gy_EL_stop (by omega)]
  | succ f ih =>
    intro f' j L h1 h2
    cases f' with
    | zero =>
      have k := h31 j (by omega)
      rw [gy_EL_stop (by omega), gy_EL_stop (by omega)]
    | succ f' =>
      rw [gy_EL_s, gy_EL_s]
      by_cases c1 : kd j = 43 ∨ kd j = 45
      · rw [if_pos c1, if_pos c1]
        cases e : gy_P kd nm (j + 1) with
        | inl e => rfl
        | inr p =>
          have := gy_P_g kd nm (j + 1) p.1 p.2 e
          exact ih f' p.1 _ (by omega) (by omega)
      rw [if_neg c1, if_neg c1]
/-- what is left of a sum: A stands, wt waits, Lp is the product so far -/
def gy_RE (kd nm : Nat → Nat) (A wt Lp : gf_L) (j : Nat) : gy := gyb (gy_T kd nm (600 - j) j Lp) (fun j' L => gy_EL kd nm (600 - j') j' (A ++ L ++ wt))
theorem gy_RE_0 {kd nm : Nat → Nat} (j : Nat) : gy_E kd nm j = gyb (gy_unit kd nm j) (fun j' U => gy_RE kd nm [] [] U j') := by
  unfold gy_RE
  rw [gy_E_s, gy_P_s, gyb_b]
  simp only [List.nil_append, List.append_nil]
theorem gy_RE_m {kd nm : Nat → Nat} (h31 : ∀ j, 501 ≤ j → kd j = 31) {A wt Lp : gf_L} {j : Nat} (c : kd j = 42) : gy_RE kd nm A wt Lp j = gyb (gy_unit kd nm (j + 1)) (fun j' U => gy_RE kd nm A wt (Lp ++ U ++ [(16, 0)]) j') := by
  have hj : j < 501 := Nat.not_le.mp (fun z => by have := h31 j z; omega)
  unfold gy_RE
  rw [show 600 - j = (599 - j) + 1 by omega, gy_T_s, if_pos c, gyb_b]
  cases e : gy_unit kd nm (j + 1) with
  | inl e => rfl
  | inr p =>
    have := gy_unit_g kd nm (j + 1) p.1 p.2 e
    rw [gyb_r, gyb_r]
    rw [gy_T_f h31 (599 - j) (600 - p.1) p.1 _ (by omega) (by omega)]
theorem gy_RE_d {kd nm : Nat → Nat} (h31 : ∀ j, 501 ≤ j → kd j = 31) {A wt Lp : gf_L} {j : Nat} (c : kd j = 47) : gy_RE kd nm A wt Lp j = gyb (gy_part kd nm (j + 1)) (fun j' U => gy_RE kd nm A wt (Lp ++ U) j') := by
  have hj : j < 501 := Nat.not_le.mp (fun z => by have := h31 j z; omega)
  unfold gy_RE
  rw [show 600 - j = (599 - j) + 1 by omega, gy_T_s, if_neg (by omega), if_pos c, gyb_b]
  cases e : gy_part kd nm (j + 1) with
  | inl e => rfl
  | inr p =>
    have := gy_part_g (j' := p.1) (U := p.2) e
    rw [gyb_r, gyb_r]
    rw [gy_T_f h31 (599 - j) (600 - p.1) p.1 _ (by omega) (by omega)]
theorem gy_RE_a {kd nm : Nat → Nat} (h31 : ∀ j, 501 ≤ j → kd j = 31) {A wt Lp : gf_L} {j : Nat} (c : kd j = 43 ∨ kd j = 45) : gy_RE kd nm A wt Lp j = gyb (gy_unit kd nm (j + 1)) (fun j' U => gy_RE kd nm (A ++ Lp ++ wt) [(if kd j = 43 then 14 else 15, 0)] U j') := by
  have hj : j < 501 := Nat.not_le.mp (fun z => by have := h31 j z; omega)
  unfold gy_RE
  rw [gy_T_stop (by omega) (by omega)]
  show gy_EL kd nm (600 - j) j (A ++ Lp ++ wt) = _
  rw [show 600 - j = (599 - j) + 1 by omega, gy_EL_s, if_pos c, gy_P_s, gyb_b]
  cases e : gy_unit kd nm (j + 1) with
  | inl e => rfl
  | inr p =>
    have g1 := gy_unit_g kd nm (j + 1) p.1 p.2 e
    rw [gyb_r, gyb_r]
    cases e2 : gy_T kd nm (600 - p.1) p.1 p.2 with
    | inl e => rfl
    | inr r =>
      have g2 := gy_T_g (600 - p.1) p.1 p.2 r.1 r.2 e2
      exact gy_EL_f h31 _ _ r.1 _ (by omega) (by omega)
theorem gy_RE_e {kd nm : Nat → Nat} {A wt Lp : gf_L} {j : Nat} (h1 : kd j ≠ 42) (h2 : kd j ≠ 47) (h3 : ¬ (kd j = 43 ∨ kd j = 45)) : gy_RE kd nm A wt Lp j = .inr (j, A ++ Lp ++ wt) := by
  unfold gy_RE
  rw [gy_T_stop h1 h2]
  exact gy_EL_stop h3
/-- what waits: nothing, or one step without a number -/
def gy_wt (wt : gf_L) (x : Int32) : Prop := (wt = [] ∧ x = -1) ∨ ∃ k : Nat, wt = [(k, 0)] ∧ x = nI (k - 12) ∧ (k = 14 ∨ k = 15)
theorem gy_31 (B : gpB w tp n t) : ∀ j, 501 ≤ j → gx_kd tp n j = 31 := fun j hj => gpB_31 B (by have := B.2.1; omega)
/-- what stands stays, and one more piece is laid -/
theorem gc_seg_2 {m c : Nat} {W X : Nat → Nat → Int32} {A U : gf_L} (sA : gc_seg (W (gp_ma m + 1)) c A) (f : ∀ x, x < c + A.length → X (gp_ma m + 1) x = W (gp_ma m + 1) x) (sU : gc_seg (X (gp_ma m + 1)) (c + A.length) U) : gc_seg (X (gp_ma m + 1)) c (A ++ U) := gc_seg_app (gc_seg_cg f (Nat.le_refl _) sA) sU
set_option maxRecDepth 100000 in
theorem gp_expression (hm : q 6 < 7) : gpC l G u q tp n t m_Pa_expression [.ref 55] (d + 2) (gy_E (gx_kd tp n) (gx_nu tp n)) := by
  have U1 := gp_unit (l := l) (G := G) (d := d) (u := u) (q := q) (tp := tp) (n := n) (t := t) hm
  have P1 := gp_part (l := l) (G := G) (d := d) (u := u) (q := q) (tp := tp) (n := n) (t := t) hm
  -- the end, behind a fault
  have endX : ∀ (W : Nat → Nat → Int32) (e p : Nat) (x y z : Int32) (K : Option Value → gp_H → Prop), gpX (q 6) W e p → (∀ W', gEF (q 6) W W' 0 → gpX (q 6) W' e p → K none (gv W' u q)) → gp_Go l G (d + 2) m_Pa_expression K 134 [some (.ref 55), some (.int x), some (.int y), none] [] (gv W u q) 0 0 := by
    intro W e p x y z K hX hK
    refine gp_go od_Pa_expression rfl ?_
    (repeat refine gp_gc [8, 91, 102, 114, 134] od_Pa_expression rfl rfl ?_)
    by_cases c : x = -1
    · refine gb_eq_t c ?_
      (repeat refine gp_gc [8, 91, 102, 114, 134] od_Pa_expression rfl rfl ?_)
      exact hK W (gEF_r W 0) hX
    · refine gb_eq_f c ?_
      (repeat refine gp_gc [8, 91, 102, 114, 134] od_Pa_expression rfl rfl ?_)
      refine gpX_em (d := d + 1) (w := W) hm hX (fun W1 f1 X1 => ?_)
      (repeat refine gp_gc [8, 91, 102, 114, 134] od_Pa_expression rfl rfl ?_)
      exact hK W1 f1 X1
  have headX : ∀ (W : Nat → Nat → Int32) (e p : Nat) (x y : Int32) (K : Option Value → gp_H → Prop), gpX (q 6) W e p → (∀ W', gEF (q 6) W W' 0 → gpX (q 6) W' e p → K none (gv W' u q)) → gp_Go l G (d + 2) m_Pa_expression K 8 [some (.ref 55), some (.int x), some (.int y), none] [] (gv W u q) 0 0 := by
    intro W e p x y K hX hK
    refine gp_go od_Pa_expression rfl ?_
    (repeat refine gp_gc [8, 91, 102, 114, 134] od_Pa_expression rfl rfl ?_)
    by_cases c : 500 < y
    · refine gb_gt_t c ?_
      (repeat refine gp_gc [8, 91, 102, 114, 134] od_Pa_expression rfl rfl ?_)
      exact endX W e p x y 0 K hX hK
    · refine gb_gt_f c ?_
      (repeat refine gp_gc [8, 91, 102, 114, 134] od_Pa_expression rfl rfl ?_)
      refine gb1_ne_t (gpX_f hX) ?_
      (repeat refine gp_gc [8, 91, 102, 114, 134] od_Pa_expression rfl rfl ?_)
      exact endX W e p x y 0 K hX hK
  constructor
  · intro W0 j0 c K B0 hO0 hcj hS hF
    have h31 := gy_31 B0
    have ht := B0.2.1
    have main : ∀ (r j i : Nat) (W : Nat → Nat → Int32) (A wt Lp : gf_L) (x : Int32), 600 ≤ j + r → i ≤ j → gy_E (gx_kd tp n) (gx_nu tp n) j0 = gy_RE (gx_kd tp n) (gx_nu tp n) A wt Lp j → gEF (q 6) W0 W c → gpO (q 6) t W j (c + (A ++ Lp).length) → gc_seg (W (gp_ma (q 6) + 1)) c (A ++ Lp) → gy_wt wt x → c + (A ++ Lp).length + wt.length ≤ j → gp_Go l G (d + 2) m_Pa_expression K 8 [some (.ref 55), some (.int x), some (.int (nI i)), none] [] (gv W u q) 0 0 := by
      intro r
      induction r with
      | zero =>
        intro j i W A wt Lp x hr hij hE f0 hO hseg hwt hlen
        have := hO.2.1
        omega
      | succ r ih =>
        intro j i W A wt Lp x hr hij hE f0 hO hseg hwt hlen
        have hjt := hO.2.1
        have B := gEF_B hm f0 B0
        have kb := gx_kd_b tp n j
        have inci : nI i + Int32.ofInt 1 = nI (i + 1) := gp_inc rfl
        -- behind a + or -
        have at114 : ∀ (W1 : Nat → Nat → Int32) (A1 : gf_L) (k : Nat) (x1 : Int32), x1 = nI (k - 12) → (k = 14 ∨ k = 15) → j < t → gEF (q 6) W0 W1 c → gpO (q 6) t W1 j (c + A1.length) → gc_seg (W1 (gp_ma (q 6) + 1)) c A1 → c + A1.length ≤ j → gy_E (gx_kd tp n) (gx_nu tp n) j0 = gyb (gy_unit (gx_kd tp n) (gx_nu tp n) (j + 1)) (fun j' U => gy_RE (gx_kd tp n) (gx_nu tp n) A1 [(k, 0)] U j') → gp_Go l G (d + 2) m_Pa_expression K 114 [some (.ref 55), some (.int x1), some (.int (nI i)), some (.int (nI (gx_kd tp n j)))] [] (gv W1 u q) 0 0 := by
          intro W1 A1 k x1 ex hk hj f1 hO1 s1 l1 hE1
          refine gp_go od_Pa_expression rfl ?_
          (repeat refine gp_gc [8, 91, 102, 114, 134] od_Pa_expression rfl rfl ?_)
          have B1 := gEF_B hm f1 B0
          have g1 : gEF (q 6) W1 (gw W1 55 6 (W1 55 6 + 1)) (c + A1.length) := gEF_55 hm (gEF_r W1 _) (by omega)
          refine U1.1 (gw W1 55 6 (W1 55 6 + 1)) (j + 1) _ _ (gEF_B hm g1 B1) (gpO_at hm hO1 hj) (by omega) (fun W2 j2 U e2 f2 O2 s2 => ?_) (fun W2 e p e2 f2 X2 => ?_)
          · rw [e2] at hE1
            have g2 := gy_unit_g _ _ _ _ _ e2
            (repeat refine gp_gc [8, 91, 102, 114, 134] od_Pa_expression rfl rfl ?_)
            rw [inci]
            refine gp_drop 3 ?_
            have f12 := gEF_t g1 f2 (Nat.le_refl _)
            refine ih j2 (i + 1) W2 A1 [(k, 0)] U x1 (by omega) (by omega) hE1 (gEF_t f1 f12 (by omega)) (by rw [List.length_append, ← Nat.add_assoc]; exact O2) (gc_seg_2 s1 f12.2.2.2 s2) (Or.inr ⟨k, rfl, ex, hk⟩) (by simp only [List.length_append, List.length_cons, List.length_nil]; omega)
          · rw [e2] at hE1
            (repeat refine gp_gc [8, 91, 102, 114, 134] od_Pa_expression rfl rfl ?_)
            rw [inci]
            refine gp_drop 3 ?_
            refine headX W2 e _ _ _ K X2 (fun W4 f4 X4 => ?_)
            exact hF W4 e p hE1 (gEF_t (gEF_t (gEF_0 f1) (gEF_t (gEF_0 g1) f2 (Nat.le_refl 0)) (Nat.le_refl 0)) f4 (Nat.le_refl 0)) X4
        have at102 : ∀ (W1 : Nat → Nat → Int32) (A1 : gf_L) (x1 : Int32), (gx_kd tp n j = 43 ∨ gx_kd tp n j = 45) → j < t → gEF (q 6) W0 W1 c → gpO (q 6) t W1 j (c + A1.length) → gc_seg (W1 (gp_ma (q 6) + 1)) c A1 → c + A1.length ≤ j → gy_E (gx_kd tp n) (gx_nu tp n) j0 = gyb (gy_unit (gx_kd tp n) (gx_nu tp n) (j + 1)) (fun j' U => gy_RE (gx_kd tp n) (gx_nu tp n) A1 [(if gx_kd tp n j = 43 then 14 else 15, 0)] U j') → gp_Go l G (d + 2) m_Pa_expression K 102 [some (.ref 55), some (.int x1), some (.int (nI i)), some (.int (nI (gx_kd tp n j)))] [] (gv W1 u q) 0 0 := by
          intro W1 A1 x1 hk hj f1 hO1 s1 l1 hE1
          refine gp_go od_Pa_expression rfl ?_
          (repeat refine gp_gc [8, 91, 102, 114, 134] od_Pa_expression rfl rfl ?_)
          by_cases c1 : gx_kd tp n j = 43
          · rw [if_pos c1] at hE1
            refine gb_ne_f (by rw [c1]; rfl) ?_
            (repeat refine gp_gc [8, 91, 102, 114, 134] od_Pa_expression rfl rfl ?_)
            exact at114 W1 A1 14 _ rfl (Or.inl rfl) hj f1 hO1 s1 l1 hE1
          · rw [if_neg c1] at hE1
            refine gb_ne_t (fun z => c1 ((nI_eq (b := 43) (by omega) (by decide)).mp z)) ?_
            (repeat refine gp_gc [8, 91, 102, 114, 134] od_Pa_expression rfl rfl ?_)
            exact at114 W1 A1 15 _ rfl (Or.inr rfl) hj f1 hO1 s1 l1 hE1
        refine gp_go od_Pa_expression rfl ?_
        (repeat refine gp_gc [8, 91, 102, 114, 134] od_Pa_expression rfl rfl ?_)
        refine gb_gt_f (nI_nlt (a := 500) (by omega) (by decide)) ?_
        (repeat refine gp_gc [8, 91, 102, 114, 134] od_Pa_expression rfl rfl ?_)
        refine gb1_ne_f hO.2.2.1 ?_
        (repeat refine gp_gc [8, 91, 102, 114, 134] od_Pa_expression rfl rfl ?_)
        refine sp_Pa_kind (d := d + 1) (w := W) B (fun k _ hk => ?_)
        have hk := hk j hO.1 hjt
        subst hk
        (repeat refine gp_gc [8, 91, 102, 114, 134] od_Pa_expression rfl rfl ?_)
        have O1 : j < t → gpO (q 6) t (gw W 55 6 (W 55 6 + 1)) (j + 1) (c + (A ++ Lp).length) := gpO_at hm hO
        have g1 : gEF (q 6) W (gw W 55 6 (W 55 6 + 1)) (c + (A ++ Lp).length) := gEF_55 hm (gEF_r W _) (by omega)
        by_cases c1 : gx_kd tp n j = 42
        · have hj : j < t := gpB_lt B (by omega)
          rw [gy_RE_m h31 c1] at hE
          refine gb_ne_f (by rw [c1]; rfl) ?_
          (repeat refine gp_gc [8, 91, 102, 114, 134] od_Pa_expression rfl rfl ?_)
          refine U1.1 (gw W 55 6 (W 55 6 + 1)) (j + 1) _ _ (gEF_B hm g1 B) (O1 hj) (by omega) (fun W2 j2 U e2 f2 O2 s2 => ?_) (fun W2 e p e2 f2 X2 => ?_)
          · rw [e2] at hE
            have g2 := gy_unit_g _ _ _ _ _ e2
            have hj2 : j2 ≤ 500 := by have := O2.2.1; omega
            have f12 := gEF_t g1 f2 (Nat.le_refl _)
            (repeat refine gp_gc [8, 91, 102, 114, 134] od_Pa_expression rfl rfl ?_)
            refine gpO_em (d := d + 1) (w := W2) (op := 4) (v := 0) (k := 16) (x := 0) hm O2 (by omega) (by decide) (by decide) (by decide) (gc_oc_o (k := 16) (by decide)) (fun z => absurd z (by decide)) (fun _ z => absurd z (by decide)) (fun W3 f3 O3 s3 => ?_)
            (repeat refine gp_gc [8, 91, 102, 114, 134] od_Pa_expression rfl rfl ?_)
            rw [inci]
            refine gp_drop 3 ?_
            have s13 := gc_seg_2 hseg f12.2.2.2 s2
            have e13 : c + (A ++ Lp).length + U.length = c + (A ++ Lp ++ U).length := by rw [List.length_append (as := A ++ Lp), Nat.add_assoc]
            rw [e13] at f3 O3 s3
            have s4 := gc_seg_2 s13 f3.2.2.2 s3
            have el : A ++ (Lp ++ U ++ [(16, 0)]) = A ++ Lp ++ U ++ [(16, 0)] := by simp only [List.append_assoc]
            have el2 : c + (A ++ Lp ++ U ++ [((16 : Nat), (0 : Int32))]).length = c + (A ++ Lp ++ U).length + 1 := by rw [List.length_append (as := A ++ Lp ++ U)]; rfl
            refine ih j2 (i + 1) W3 A wt (Lp ++ U ++ [(16, 0)]) x (by omega) (by omega) hE (gEF_t f0 (gEF_t f12 f3 (by omega)) (by omega)) (by rw [el, el2]; exact O3) (by rw [el]; exact s4) hwt (by rw [el, el2]; omega)
          · rw [e2] at hE
            (repeat refine gp_gc [8, 91, 102, 114, 134] od_Pa_expression rfl rfl ?_)
            refine gpX_em (d := d + 1) (w := W2) hm X2 (fun W3 f3 X3 => ?_)
            (repeat refine gp_gc [8, 91, 102, 114, 134] od_Pa_expression rfl rfl ?_)
            rw [inci]
            refine gp_drop 3 ?_
            refine headX W3 e _ _ _ K X3 (fun W4 f4 X4 => ?_)
            exact hF W4 e p hE (gEF_t (gEF_t (gEF_t (gEF_0 f0) (gEF_t (gEF_0 g1) f2 (Nat.le_refl 0)) (Nat.le_refl 0)) f3 (Nat.le_refl 0)) f4 (Nat.le_refl 0)) X4
        refine gb_ne_t (fun z => c1 ((nI_eq (b := 42) (by omega) (by decide)).mp z)) ?_
        (repeat refine gp_gc [8, 91, 102, 114, 134] od_Pa_expression rfl rfl ?_)
        by_cases c2 : gx_kd tp n j = 47
        · have hj : j < t := gpB_lt B (by omega)
          rw [gy_RE_d h31 c2] at hE
          refine gb_ne_f (by rw [c2]; rfl) ?_
          (repeat refine gp_gc [8, 91, 102, 114, 134] od_Pa_expression rfl rfl ?_)
          refine P1.1 (gw W 55 6 (W 55 6 + 1)) (j + 1) _ _ (gEF_B hm g1 B) (O1 hj) (by omega) (fun W2 j2 U e2 f2 O2 s2 => ?_) (fun W2 e p e2 f2 X2 => ?_)
          · rw [e2] at hE
            have g2 := gy_part_g e2
            have f12 := gEF_t g1 f2 (Nat.le_refl _)
            (repeat refine gp_gc [8, 91, 102, 114, 134] od_Pa_expression rfl rfl ?_)
            rw [inci]
            refine gp_drop 3 ?_
            have s13 := gc_seg_2 hseg f12.2.2.2 s2
            have el : A ++ (Lp ++ U) = A ++ Lp ++ U := by simp only [List.append_assoc]
            have el2 : c + (A ++ Lp ++ U).length = c + (A ++ Lp).length + U.length := by rw [List.length_append (as := A ++ Lp), Nat.add_assoc]
            refine ih j2 (i + 1) W2 A wt (Lp ++ U) x (by omega) (by omega) hE (gEF_t f0 f12 (by omega)) (by rw [el, el2]; exact O2) (by rw [el]; exact s13) hwt (by rw [el, el2]; omega)
          · rw [e2] at hE
            (repeat refine gp_gc [8, 91, 102, 114, 134] od_Pa_expression rfl rfl ?_)
            rw [inci]
            refine gp_drop 3 ?_
            refine headX W2 e _ _ _ K X2 (fun W4 f4 X4 => ?_)
            exact hF W4 e p hE (gEF_t (gEF_t (gEF_0 f0) (gEF_t (gEF_0 g1) f2 (Nat.le_refl 0)) (Nat.le_refl 0)) f4 (Nat.le_refl 0)) X4
        refine gb_ne_t (fun z => c2 ((nI_eq (b := 47) (by omega) (by decide)).mp z)) ?_
        (repeat refine gp_gc [8, 91, 102, 114, 134] od_Pa_expression rfl rfl ?_)
        by_cases c3 : gx_kd tp n j = 43 ∨ gx_kd tp n j = 45
        · have hj : j < t := gpB_lt B (by omega)
          rw [gy_RE_a h31 c3] at hE
          have at91 : gp_Go l G (d + 2) m_Pa_expression K 91 [some (.ref 55), some (.int x), some (.int (nI i)), some (.int (nI (gx_kd tp n j)))] [] (gv W u q) 0 0 := by
            refine gp_go od_Pa_expression rfl ?_
            (repeat refine gp_gc [8, 91, 102, 114, 134] od_Pa_expression rfl rfl ?_)
            rcases hwt with ⟨w1, w2⟩ | ⟨k, w1, w2, w3⟩
            · subst w1 w2
              refine gb_eq_t rfl ?_
              (repeat refine gp_gc [8, 91, 102, 114, 134] od_Pa_expression rfl rfl ?_)
              rw [List.append_nil] at hE
              exact at102 W (A ++ Lp) _ c3 hj f0 hO hseg hlen hE
            · subst w1 w2
              refine gb_eq_f (by rcases w3 with z | z <;> rw [z] <;> decide) ?_
              (repeat refine gp_gc [8, 91, 102, 114, 134] od_Pa_expression rfl rfl ?_)
              refine gpO_em (d := d + 1) (w := W) (op := k - 12) (v := 0) (k := k) (x := 0) hm hO (by simp only [List.length_cons, List.length_nil] at hlen; omega) (by decide) (by omega) (by omega) (gc_oc_o (k := k) (by omega)) (fun z => absurd z (by omega)) (fun _ z => absurd z (by omega)) (fun W3 f3 O3 s3 => ?_)
              (repeat refine gp_gc [8, 91, 102, 114, 134] od_Pa_expression rfl rfl ?_)
              have el2 : c + (A ++ Lp ++ [(k, (0 : Int32))]).length = c + (A ++ Lp).length + 1 := by rw [List.length_append (as := A ++ Lp)]; rfl
              exact at102 W3 (A ++ Lp ++ [(k, 0)]) _ c3 hj (gEF_t f0 f3 (by omega)) (by rw [el2]; exact O3) (gc_seg_2 hseg f3.2.2.2 s3) (by rw [el2]; exact hlen) hE
          by_cases c4 : gx_kd tp n j = 43
          · refine gb_eq_t (by rw [c4]; rfl) ?_
            (repeat refine gp_gc [8, 91, 102, 114, 134] od_Pa_expression rfl rfl ?_)
            exact at91
          · refine gb_eq_f (fun z => c4 ((nI_eq (b := 43) (by omega) (by decide)).mp z)) ?_
            (repeat refine gp_gc [8, 91, 102, 114, 134] od_Pa_expression rfl rfl ?_)
            refine gb_ne_f (by rw [c3.resolve_left c4]; rfl) ?_
            (repeat refine gp_gc [8, 91, 102, 114, 134] od_Pa_expression rfl rfl ?_)
            exact at91
        · rw [gy_RE_e c1 c2 c3] at hE
          refine gb_eq_f (fun z => c3 (Or.inl ((nI_eq (b := 43) (by omega) (by decide)).mp z))) ?_
          (repeat refine gp_gc [8, 91, 102, 114, 134] od_Pa_expression rfl rfl ?_)
          refine gb_ne_t (fun z => c3 (Or.inr ((nI_eq (b := 45) (by omega) (by decide)).mp z))) ?_
          (repeat refine gp_gc [8, 91, 102, 114, 134] od_Pa_expression rfl rfl ?_)
          refine gp_drop 3 ?_
          refine gp_go od_Pa_expression rfl ?_
          (repeat refine gp_gc [8, 91, 102, 114, 134] od_Pa_expression rfl rfl ?_)
          rcases hwt with ⟨w1, w2⟩ | ⟨k, w1, w2, w3⟩
          · subst w1 w2
            refine gb_eq_t rfl ?_
            (repeat refine gp_gc [8, 91, 102, 114, 134] od_Pa_expression rfl rfl ?_)
            rw [List.append_nil] at hE
            exact hS W j _ hE f0 hO hseg
          · subst w1 w2
            refine gb_eq_f (by rcases w3 with z | z <;> rw [z] <;> decide) ?_
            (repeat refine gp_gc [8, 91, 102, 114, 134] od_Pa_expression rfl rfl ?_)
            refine gpO_em (d := d + 1) (w := W) (op := k - 12) (v := 0) (k := k) (x := 0) hm hO (by simp only [List.length_cons, List.length_nil] at hlen; omega) (by decide) (by omega) (by omega) (gc_oc_o (k := k) (by omega)) (fun z => absurd z (by omega)) (fun _ z => absurd z (by omega)) (fun W3 f3 O3 s3 => ?_)
            (repeat refine gp_gc [8, 91, 102, 114, 134] od_Pa_expression rfl rfl ?_)
            have el2 : c + (A ++ Lp ++ [(k, (0 : Int32))]).length = c + (A ++ Lp).length + 1 := by rw [List.length_append (as := A ++ Lp)]; rfl
            exact hS W3 j _ hE (gEF_t f0 f3 (by omega)) (by rw [el2]; exact O3) (gc_seg_2 hseg f3.2.2.2 s3)
    have hE0 := gy_RE_0 (kd := gx_kd tp n) (nm := gx_nu tp n) j0
    have hj0 := hO0.2.1
    refine gp_enter od_Pa_expression rfl ?_
    (repeat refine gp_gc [8, 91, 102, 114, 134] od_Pa_expression rfl rfl ?_)
    refine U1.1 W0 j0 c _ B0 hO0 hcj (fun W2 j2 U e2 f2 O2 s2 => ?_) (fun W2 e p e2 f2 X2 => ?_)
    · rw [e2] at hE0
      have g2 := gy_unit_g _ _ _ _ _ e2
      have := O2.2.1
      (repeat refine gp_gc [8, 91, 102, 114, 134] od_Pa_expression rfl rfl ?_)
      exact main (600 - j2) j2 0 W2 [] [] U _ (by omega) (by omega) hE0 f2 O2 s2 (Or.inl ⟨rfl, rfl⟩) (by simp only [List.nil_append, List.length_nil]; omega)
    · rw [e2] at hE0
      (repeat refine gp_gc [8, 91, 102, 114, 134] od_Pa_expression rfl rfl ?_)
      refine headX W2 e _ _ _ K X2 (fun W4 f4 X4 => ?_)
      exact hF W4 e p hE0 (gEF_t f2 f4 (Nat.le_refl 0)) X4
  · intro W e p K B hX hK
    refine gp_enter od_Pa_expression rfl ?_
    (repeat refine gp_gc [8, 91, 102, 114, 134] od_Pa_expression rfl rfl ?_)
    refine U1.2 W e p _ B hX (fun W1 f1 X1 => ?_)
    (repeat refine gp_gc [8, 91, 102, 114, 134] od_Pa_expression rfl rfl ?_)
    refine headX W1 e p _ _ K X1 (fun W2 f2 X2 => hK W2 (gEF_t f1 f2 (Nat.le_refl 0)) X2)
end

end
