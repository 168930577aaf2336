section
variable {l : Launch} {G : gp_G} {d : Nat} {w : Nat → Nat → Int32} {u : Int64 × (Nat → Int64)} {q : Nat → Nat} {K : Option Value → gp_H → Prop}
/-! ===== the class's sky: years, places ===== -/
def gJ_s (w : Nat → Nat → Int32) (nb : Nat) : Prop := w 83 7 = nI nb ∧ w 95 57 = nI nb ∧ nb ≤ 14 ∧ (∀ i, i < 14 → w 84 i = w 130 i ∧ w 85 i = w 131 i ∧ w 86 i = w 132 i ∧ w 87 i = w 133 i ∧ w 88 i = w 134 i ∧ w 89 i = w 135 i ∧ w 90 i = w 136 i) ∧ (∀ i, i < nb → (∃ a : Nat, a < 40 ∧ w 132 i = nI a) ∧ ∃ a : Nat, a < 40 ∧ w 133 i = nI a) ∧ ∀ i, i < 14 → ∃ a : Nat, a ≤ 55 ∧ w 136 i = nI a
theorem gJ_s_R {w W : Nat → Nat → Int32} {nb : Nat} (h : gs_R w W) (Js : gJ_s w nb) : gJ_s W nb := by
  unfold gJ_s
  rw [h.2.2, h.2.1 57 rfl, h.1 84 rfl (by decide) (by decide), h.1 85 rfl (by decide) (by decide), h.1 86 rfl (by decide) (by decide), h.1 87 rfl (by decide) (by decide), h.1 88 rfl (by decide) (by decide), h.1 89 rfl (by decide) (by decide), h.1 90 rfl (by decide) (by decide), h.1 130 rfl (by decide) (by decide), h.1 131 rfl (by decide) (by decide), h.1 132 rfl (by decide) (by decide), h.1 133 rfl (by decide) (by decide), h.1 134 rfl (by decide) (by decide), h.1 135 rfl (by decide) (by decide), h.1 136 rfl (by decide) (by decide)]
  exact Js
abbrev gcs_P (w : Nat → Nat → Int32) (y : Int32) (b : Nat) : Int64 := (w 84 b).toInt64 + (w 84 b).toInt64 * (w 85 b).toInt64 * y.toInt64 / 1000000
abbrev gcs_C (w : Nat → Nat → Int32) (y : Int32) (b : Nat) : Prop := w 88 b = -1 ∨ (¬ lg_cmp (gcs_P w y b) (w 88 b).toInt64 < 0 ∧ lg_cmp (gcs_P w y b) (w 89 b).toInt64 ≤ 0)
section
variable {n : Nat}
set_option maxRecDepth 100000 in
theorem sp_Sk_fits {x y : Int32} {i : Nat} (ex : x = nI i) (hi : i < 14) (h1 : ¬ lg_cmp (gcs_P w y i) (w 88 i).toInt64 < 0 → lg_cmp (gcs_P w y i) (w 89 i).toInt64 ≤ 0 → K (some (.int 1)) (gv w u q)) (h0 : ¬ (¬ lg_cmp (gcs_P w y i) (w 88 i).toInt64 < 0 ∧ lg_cmp (gcs_P w y i) (w 89 i).toInt64 ≤ 0) → K (some (.int 0)) (gv w u q)) : gp_Cal l G (d + 0) m_Sk_fits [.ref 83, .int x, .int y] (gv w u q) K := by
  refine gp_enter od_Sk_fits rfl ?_
  have ix : vp_in x 14 := by rw [ex]; exact vp_in_nI hi (by decide)
  have cx : x.toNatClampNeg = i := by rw [ex]; exact nI_clamp (by omega)
  (repeat refine gp_gc [] od_Sk_fits rfl rfl ?_)
  refine And.intro ix ?_
  (repeat refine gp_gc [] od_Sk_fits rfl rfl ?_)
  refine And.intro ix ?_
  (repeat refine gp_gc [] od_Sk_fits rfl rfl ?_)
  refine And.intro (by decide) ?_
  (repeat refine gp_gc [] od_Sk_fits rfl rfl ?_)
  refine And.intro ix ?_
  (repeat refine gp_gc [] od_Sk_fits rfl rfl ?_)
  refine And.intro ix ?_
  (repeat refine gp_gc [] od_Sk_fits rfl rfl ?_)
  rw [cx]
  by_cases b1 : lg_cmp (gcs_P w y i) (w 88 i).toInt64 < 0
  · refine gb1_lt_t b1 ?_
    (repeat refine gp_gc [] od_Sk_fits rfl rfl ?_)
    exact And.intro (Or.inl rfl) (h0 (fun z => z.1 b1))
  refine gb1_lt_f b1 ?_
  (repeat refine gp_gc [] od_Sk_fits rfl rfl ?_)
  refine And.intro ix ?_
  (repeat refine gp_gc [] od_Sk_fits rfl rfl ?_)
  rw [cx]
  by_cases b2 : lg_cmp (gcs_P w y i) (w 89 i).toInt64 ≤ 0
  · refine gb1_gt_f' b2 ?_
    (repeat refine gp_gc [] od_Sk_fits rfl rfl ?_)
    exact And.intro (Or.inr rfl) (h1 b1 b2)
  · refine gb1_gt_t' b2 ?_
    (repeat refine gp_gc [] od_Sk_fits rfl rfl ?_)
    exact And.intro (Or.inl rfl) (h0 (fun z => b2 z.2))
set_option maxRecDepth 100000 in
theorem sp_Sk_fitsAll {y : Int32} (en : w 83 7 = nI n) (hn : n ≤ 14) (h1 : (∀ b, b < n → gcs_C w y b) → K (some (.int 1)) (gv w u q)) (h0 : ¬ (∀ b, b < n → gcs_C w y b) → K (some (.int 0)) (gv w u q)) : gp_Cal l G (d + 1) m_Sk_fitsAll [.ref 83, .int y] (gv w u q) K := by
  refine gp_enter od_Sk_fitsAll rfl ?_
  have loop : ∀ (r j : Nat), j + r = n → (∀ b, b < j → gcs_C w y b) → gp_Go l G (d + 1) m_Sk_fitsAll K 2 [some (.ref 83), some (.int y), some (.int (nI j))] [] (gv w u q) 0 0 := by
    intro r
    induction r with
    | zero =>
      intro j hj hall
      have ej : j = n := by omega
      refine gp_go od_Sk_fitsAll rfl ?_
      (repeat refine gp_gc [2] od_Sk_fitsAll rfl rfl ?_)
      refine gb_ge_t (by rw [en, ej]; exact Int32.le_refl _) ?_
      (repeat refine gp_gc [2] od_Sk_fitsAll rfl rfl ?_)
      exact And.intro (Or.inr rfl) (h1 (by rw [ej] at hall; exact hall))
    | succ r ih =>
      intro j hj hall
      have inc : nI j + Int32.ofInt 1 = nI (j + 1) := gp_inc rfl
      have cj : (nI j).toNatClampNeg = j := nI_clamp (by omega)
      refine gp_go od_Sk_fitsAll rfl ?_
      (repeat refine gp_gc [2] od_Sk_fitsAll rfl rfl ?_)
      refine gb_ge_f (by rw [en]; exact nI_ge (by omega) (by omega)) ?_
      (repeat refine gp_gc [2] od_Sk_fitsAll rfl rfl ?_)
      refine And.intro (vp_in_nI (by omega) (by decide)) ?_
      rw [cj]
      (repeat refine gp_gc [2] od_Sk_fitsAll rfl rfl ?_)
      by_cases c : w 88 j = -1
      · refine gb_eq_t c ?_
        (repeat refine gp_gc [2] od_Sk_fitsAll rfl rfl ?_)
        rw [inc]
        exact ih (j + 1) (by omega) (lt_s hall (Or.inl c))
      refine gb_eq_f c ?_
      (repeat refine gp_gc [2] od_Sk_fitsAll rfl rfl ?_)
      refine sp_Sk_fits (d := d) rfl (by omega) (fun b1 b2 => ?_) (fun b => ?_)
      · (repeat refine gp_gc [2] od_Sk_fitsAll rfl rfl ?_)
        refine gb1_ne_t (by decide) ?_
        (repeat refine gp_gc [2] od_Sk_fitsAll rfl rfl ?_)
        rw [inc]
        exact ih (j + 1) (by omega) (lt_s hall (Or.inr ⟨b1, b2⟩))
      · (repeat refine gp_gc [2] od_Sk_fitsAll rfl rfl ?_)
        refine gb1_ne_f rfl ?_
        (repeat refine gp_gc [2] od_Sk_fitsAll rfl rfl ?_)
        exact And.intro (Or.inl rfl) (h0 (fun z => (z j (by omega)).elim c b))
  (repeat refine gp_gc [2] od_Sk_fitsAll rfl rfl ?_)
  exact loop n 0 (by omega) (fun b hb => absurd hb (by omega))
set_option maxRecDepth 100000 in
theorem sp_Sk_anyFound (en : w 83 7 = nI n) (hn : n ≤ 14) (h1 : (∃ b, b < n ∧ ¬ w 88 b = -1) → K (some (.int 1)) (gv w u q)) (h0 : ¬ (∃ b, b < n ∧ ¬ w 88 b = -1) → K (some (.int 0)) (gv w u q)) : gp_Cal l G (d + 0) m_Sk_anyFound [.ref 83] (gv w u q) K := by
  refine gp_enter od_Sk_anyFound rfl ?_
  have loop : ∀ (r j : Nat), j + r = n → (∀ b, b < j → w 88 b = -1) → gp_Go l G (d + 0) m_Sk_anyFound K 2 [some (.ref 83), some (.int (nI j))] [] (gv w u q) 0 0 := by
    intro r
    induction r with
    | zero =>
      intro j hj hall
      have ej : j = n := by omega
      refine gp_go od_Sk_anyFound rfl ?_
      (repeat refine gp_gc [2] od_Sk_anyFound rfl rfl ?_)
      refine gb_ge_t (by rw [en, ej]; exact Int32.le_refl _) ?_
      (repeat refine gp_gc [2] od_Sk_anyFound rfl rfl ?_)
      exact And.intro (Or.inl rfl) (h0 (fun ⟨b, hb, z⟩ => z (hall b (by omega))))
    | succ r ih =>
      intro j hj hall
      have inc : nI j + Int32.ofInt 1 = nI (j + 1) := gp_inc rfl
      have cj : (nI j).toNatClampNeg = j := nI_clamp (by omega)
      refine gp_go od_Sk_anyFound rfl ?_
      (repeat refine gp_gc [2] od_Sk_anyFound rfl rfl ?_)
      refine gb_ge_f (by rw [en]; exact nI_ge (by omega) (by omega)) ?_
      (repeat refine gp_gc [2] od_Sk_anyFound rfl rfl ?_)
      refine And.intro (vp_in_nI (by omega) (by decide)) ?_
      rw [cj]
      (repeat refine gp_gc [2] od_Sk_anyFound rfl rfl ?_)
      by_cases c : w 88 j = -1
      · refine gb_eq_t c ?_
        (repeat refine gp_gc [2] od_Sk_anyFound rfl rfl ?_)
        rw [inc]
        exact ih (j + 1) (by omega) (lt_s hall c)
      · refine gb_eq_f c ?_
        (repeat refine gp_gc [2] od_Sk_anyFound rfl rfl ?_)
        exact And.intro (Or.inr rfl) (h1 ⟨j, by omega, c⟩)
  (repeat refine gp_gc [2] od_Sk_anyFound rfl rfl ?_)
  exact loop n 0 (by omega) (fun b hb => absurd hb (by omega))
def gyR (w W : Nat → Nat → Int32) (s : Int32 × Int32 × Int32) : Prop := (∀ b, b ≠ 83 → W b = w b) ∧ W 83 7 = w 83 7 ∧ W 83 8 = s.1 ∧ W 83 9 = s.2.1 ∧ W 83 10 = s.2.2
theorem gyR_R {w W : Nat → Nat → Int32} {s : Int32 × Int32 × Int32} (h : gyR w W s) : gs_R w W := ⟨fun b _ h83 _ => h.1 b h83, fun k _ => by rw [h.1 95 (by decide)], h.2.1⟩
/-- how many, and the first is told just if there is one -/
def gy_y (k : Nat) (s : Int32 × Int32 × Int32) : Prop := ∃ c : Nat, c ≤ k ∧ s.1 = nI c ∧ (c = 0 ↔ s.2.1 = -1)
set_option maxRecDepth 100000 in
theorem sp_Sk_countYears (Js : gJ_s w n) (dc : ∀ y : Nat, Decidable (∀ b, b < n → gf_thC w (nI y) b)) (h1 : (∃ b, b < n ∧ ¬ w 134 b = -1) → ∀ s W, s = gp_it (gf_yrS (fun y => ∀ b, b < n → gf_thC w (nI y) b) dc) 0 1000 (0, -1, -1) → gyR w W s → K none (gv W u q)) (h2 : ¬ (∃ b, b < n ∧ ¬ w 134 b = -1) → ∀ W, gyR w W (0, -1, -1) → K none (gv W u q)) : gp_Cal l G (d + 2) m_Sk_countYears [.ref 83] (gv w u q) K := by
  refine gp_enter od_Sk_countYears rfl ?_
  have hn := Js.2.2.1
  have en := Js.1
  have eC : ∀ (W : Nat → Nat → Int32) (y : Int32), (∀ b, b ≠ 83 → W b = w b) → ((∀ b, b < n → gcs_C W y b) ↔ ∀ b, b < n → gf_thC w y b) := by
    intro W y hW
    have e : ∀ b, b < n → (gcs_C W y b ↔ gf_thC w y b) := fun b hb => by
      have j := Js.2.2.2.1 b (by omega)
      unfold gcs_C gf_thC gcs_P gf_P
      rw [hW 84 (by decide), hW 85 (by decide), hW 88 (by decide), hW 89 (by decide), j.1, j.2.1, j.2.2.2.2.1, j.2.2.2.2.2.1]
    exact ⟨fun h b hb => (e b hb).mp (h b hb), fun h b hb => (e b hb).mpr (h b hb)⟩
  have eA : ∀ (W : Nat → Nat → Int32), (∀ b, b ≠ 83 → W b = w b) → ((∃ b, b < n ∧ ¬ W 88 b = -1) ↔ ∃ b, b < n ∧ ¬ w 134 b = -1) := by
    intro W hW
    rw [hW 88 (by decide)]
    constructor
    · intro ⟨b, hb, z⟩
      exact ⟨b, hb, by rw [← (Js.2.2.2.1 b (by omega)).2.2.2.2.1]; exact z⟩
    · intro ⟨b, hb, z⟩
      exact ⟨b, hb, by rw [(Js.2.2.2.1 b (by omega)).2.2.2.2.1]; exact z⟩
  have yes : ∀ (F : Int32 × Int32 × Int32) (_ : ∀ W, gyR w W F → K none (gv W u q)) (r y : Nat) (s : Int32 × Int32 × Int32) (W : Nat → Nat → Int32), y + r = 1000 → gy_y y s → gp_it (gf_yrS (fun y => ∀ b, b < n → gf_thC w (nI y) b) dc) y r s = F → gyR w W s → gp_Go l G (d + 2) m_Sk_countYears K 22 [some (.ref 83), some (.int 1), some (.int (nI y))] [] (gv W u q) 0 0 := by
    intro F hF r
    induction r with
    | zero =>
      intro y s W hy hs hh hR
      have ey : y = 1000 := by omega
      subst ey
      have hh : s = F := hh
      refine gp_go od_Sk_countYears rfl ?_
      (repeat refine gp_gc [22] od_Sk_countYears rfl rfl ?_)
      refine gb_ge_t (by decide) ?_
      (repeat refine gp_gc [22] od_Sk_countYears rfl rfl ?_)
      exact hF W (by rw [← hh]; exact hR)
    | succ r ih =>
      intro y s W hy hs hh hR
      have inc : nI y + Int32.ofInt 1 = nI (y + 1) := gp_inc rfl
      have hh : gp_it (gf_yrS (fun y => ∀ b, b < n → gf_thC w (nI y) b) dc) (y + 1) r (gf_yrS (fun y => ∀ b, b < n → gf_thC w (nI y) b) dc y s) = F := hh
      obtain ⟨c, hc, e1, e2⟩ := hs
      obtain ⟨r1, r2, r3, r4, r5⟩ := hR
      refine gp_go od_Sk_countYears rfl ?_
      (repeat refine gp_gc [22] od_Sk_countYears rfl rfl ?_)
      refine gb_ge_f (nI_ge (b := 1000) (by omega) (by decide)) ?_
      (repeat refine gp_gc [22] od_Sk_countYears rfl rfl ?_)
      refine gb1_eq_f (by decide) ?_
      (repeat refine gp_gc [22] od_Sk_countYears rfl rfl ?_)
      refine sp_Sk_fitsAll (d := d) (w := W) (n := n) (by rw [r2]; exact en) hn (fun b => ?_) (fun b => ?_)
      · have b : ∀ b, b < n → gf_thC w (nI y) b := (eC W _ r1).mp b
        have x1 : gf_yrS (fun y => ∀ b, b < n → gf_thC w (nI y) b) dc y s = (s.1 + 1, (if s.2.1 = -1 then nI y else s.2.1), nI y) := @if_pos _ (dc y) b _ _ _
        rw [x1] at hh
        (repeat refine gp_gc [22] od_Sk_countYears rfl rfl ?_)
        refine gb1_eq_f (by decide) ?_
        (repeat refine gp_gc [22] od_Sk_countYears rfl rfl ?_)
        by_cases c0 : c = 0
        · rw [if_pos (e2.mp c0)] at hh
          refine gb1_ne_f (by rw [r3, e1, c0]; rfl) ?_
          (repeat refine gp_gc [22] od_Sk_countYears rfl rfl ?_)
          rw [inc]
          refine ih (y + 1) (s.1 + 1, nI y, nI y) (gw (gw (gw W 83 9 (nI y)) 83 10 (nI y)) 83 8 (W 83 8 + 1)) (by omega) ⟨c + 1, by omega, by rw [e1]; exact nI_1 c, ?_⟩ hh ⟨fun b hb => by rw [gw_ne hb, gw_ne hb, gw_ne hb]; exact r1 b hb, r2, by rw [← r3]; rfl, rfl, rfl⟩
          refine ⟨fun z => absurd z (by omega), fun z => ?_⟩
          exact absurd (show nI y < 0 by rw [show nI y = -1 from z]; decide) (nI_pos (by omega))
        · rw [if_neg (fun z => c0 (e2.mpr z))] at hh
          refine gb1_ne_t (by rw [r3, e1]; exact nI_ne0 (by omega) (by omega)) ?_
          (repeat refine gp_gc [22] od_Sk_countYears rfl rfl ?_)
          rw [inc]
          refine ih (y + 1) (s.1 + 1, s.2.1, nI y) (gw (gw (gw W 83 9 (W 83 9)) 83 10 (nI y)) 83 8 (W 83 8 + 1)) (by omega) ⟨c + 1, by omega, by rw [e1]; exact nI_1 c, ?_⟩ hh ⟨fun b hb => by rw [gw_ne hb, gw_ne hb, gw_ne hb]; exact r1 b hb, r2, by rw [← r3]; rfl, r4, rfl⟩
          exact ⟨fun z => absurd z (by omega), fun z => absurd (e2.mpr z) c0⟩
      · have b : ¬ ∀ b, b < n → gf_thC w (nI y) b := fun z => b ((eC W _ r1).mpr z)
        have x1 : gf_yrS (fun y => ∀ b, b < n → gf_thC w (nI y) b) dc y s = s := @if_neg _ (dc y) b _ _ _
        rw [x1] at hh
        (repeat refine gp_gc [22] od_Sk_countYears rfl rfl ?_)
        refine gb1_eq_t rfl ?_
        (repeat refine gp_gc [22] od_Sk_countYears rfl rfl ?_)
        rw [inc]
        exact ih (y + 1) s W (by omega) ⟨c, by omega, e1, e2⟩ hh ⟨r1, r2, r3, r4, r5⟩
  have no : ∀ (W : Nat → Nat → Int32) (_ : K none (gv W u q)) (r y : Nat), y + r = 1000 → gp_Go l G (d + 2) m_Sk_countYears K 22 [some (.ref 83), some (.int 0), some (.int (nI y))] [] (gv W u q) 0 0 := by
    intro W hh r
    induction r with
    | zero =>
      intro y hy
      have ey : y = 1000 := by omega
      subst ey
      refine gp_go od_Sk_countYears rfl ?_
      (repeat refine gp_gc [22] od_Sk_countYears rfl rfl ?_)
      refine gb_ge_t (by decide) ?_
      (repeat refine gp_gc [22] od_Sk_countYears rfl rfl ?_)
      exact hh
    | succ r ih =>
      intro y hy
      have inc : nI y + Int32.ofInt 1 = nI (y + 1) := gp_inc rfl
      refine gp_go od_Sk_countYears rfl ?_
      (repeat refine gp_gc [22] od_Sk_countYears rfl rfl ?_)
      refine gb_ge_f (nI_ge (b := 1000) (by omega) (by decide)) ?_
      (repeat refine gp_gc [22] od_Sk_countYears rfl rfl ?_)
      refine gb1_eq_t rfl ?_
      (repeat refine gp_gc [22] od_Sk_countYears rfl rfl ?_)
      rw [inc]
      exact ih (y + 1) (by omega)
  have R0 : gyR w (gw (gw (gw w 83 8 0) 83 9 (-1)) 83 10 (-1)) (0, -1, -1) := ⟨fun b hb => by rw [gw_ne hb, gw_ne hb, gw_ne hb], rfl, rfl, rfl, rfl⟩
  (repeat refine gp_gc [22] od_Sk_countYears rfl rfl ?_)
  refine sp_Sk_anyFound (d := d + 1) (w := gw (gw (gw w 83 8 0) 83 9 (-1)) 83 10 (-1)) (n := n) en hn (fun b => ?_) (fun b => ?_)
  · have b : ∃ b, b < n ∧ ¬ w 134 b = -1 := (eA _ R0.1).mp b
    (repeat refine gp_gc [22] od_Sk_countYears rfl rfl ?_)
    exact yes _ (fun W => h1 b _ W rfl) 1000 0 (0, -1, -1) _ (by omega) ⟨0, by omega, rfl, by decide⟩ rfl R0
  · have b : ¬ ∃ b, b < n ∧ ¬ w 134 b = -1 := fun z => b ((eA _ R0.1).mpr z)
    (repeat refine gp_gc [22] od_Sk_countYears rfl rfl ?_)
    exact no _ (h2 b _ R0) 1000 0 (by omega)
set_option maxRecDepth 100000 in
theorem sp_Gp_years {what : Int32} (Js : gJ_s w n) (dc : ∀ y : Nat, Decidable (∀ b, b < n → gf_thC w (nI y) b)) (h0 : ¬ (0 ≤ what ∧ what ≤ 2) → K (some (.int (-1))) (gv w u q)) (h1 : 0 ≤ what ∧ what ≤ 2 → (∃ b, b < n ∧ ¬ w 134 b = -1) → ∀ s : Int32 × Int32 × Int32, s = gp_it (gf_yrS (fun y => ∀ b, b < n → gf_thC w (nI y) b) dc) 0 1000 (0, -1, -1) → ∀ W, gs_R w W → K (some (.int (if what = 0 then s.2.1 else if what = 1 then s.2.2 else s.1))) (gv W u q)) (h2 : 0 ≤ what ∧ what ≤ 2 → ¬ (∃ b, b < n ∧ ¬ w 134 b = -1) → ∀ W, gs_R w W → K (some (.int (if what = 0 then -1 else if what = 1 then -1 else 0))) (gv W u q)) : gp_Cal l G (d + 3) m_Gp_years [.ref 0, .int what] (gv w u q) K := by
  refine gp_enter od_Gp_years rfl ?_
  (repeat refine gp_gc [] od_Gp_years rfl rfl ?_)
  refine sp_Gp_within (fun a1 b1 => ?_) (fun n1 => ?_)
  rotate_left
  · repeat refine gp_gc [] od_Gp_years rfl rfl ?_
    first | refine And.intro (fun _ => ?_) (fun c => absurd rfl c) | refine And.intro (fun c => absurd rfl c) (fun _ => ?_)
    repeat refine gp_gc [] od_Gp_years rfl rfl ?_
    exact h0 n1
  repeat refine gp_gc [] od_Gp_years rfl rfl ?_
  first | refine And.intro (fun c => absurd c (by decide)) (fun _ => ?_) | refine And.intro (fun _ => ?_) (fun c => absurd c (by decide))
  repeat refine gp_gc [] od_Gp_years rfl rfl ?_
  have fin : ∀ (s : Int32 × Int32 × Int32) (W : Nat → Nat → Int32), gyR w W s → (∀ W, gs_R w W → K (some (.int (if what = 0 then s.2.1 else if what = 1 then s.2.2 else s.1))) (gv W u q)) → gp_Go l G (d + 3) m_Gp_years K 18 [some (.ref 0), some (.int what)] [] (gv W u q) 0 0 := by
    intro s W hR hh
    have hh := hh W (gyR_R hR)
    obtain ⟨r1, r2, r3, r4, r5⟩ := hR
    refine gp_go od_Gp_years rfl ?_
    (repeat refine gp_gc [] od_Gp_years rfl rfl ?_)
    by_cases c2 : what = 2
    · rw [if_neg (by rw [c2]; decide), if_neg (by rw [c2]; decide), ← r3] at hh
      refine gb_ne_f c2 ?_
      (repeat refine gp_gc [] od_Gp_years rfl rfl ?_)
      exact hh
    refine gb_ne_t c2 ?_
    (repeat refine gp_gc [] od_Gp_years rfl rfl ?_)
    by_cases c0 : what = 0
    · rw [if_pos c0, ← r4] at hh
      refine gb1_ne_f c0 ?_
      (repeat refine gp_gc [] od_Gp_years rfl rfl ?_)
      exact hh
    · have c1 : what = 1 := by
        rcases gf_w2 a1 b1 with z | z | z
        · exact absurd z c0
        · exact z
        · exact absurd z c2
      rw [if_neg c0, if_pos c1, ← r5] at hh
      refine gb1_ne_t c0 ?_
      (repeat refine gp_gc [] od_Gp_years rfl rfl ?_)
      exact hh
  refine sp_Sk_countYears (d := d) Js dc (fun b s W es hR => ?_) (fun b W hR => ?_)
  · exact fin s W hR (h1 ⟨a1, b1⟩ b s es)
  · exact fin (0, -1, -1) W hR (h2 ⟨a1, b1⟩ b)
end

end
