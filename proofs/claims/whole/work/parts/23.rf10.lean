section
variable {l : Launch} {G : gp_G} {d : Nat} {w : Nat → Nat → Int32} {u : Int64 × (Nat → Int64)} {q : Nat → Nat} {K : Option Value → gp_H → Prop}
/-! ===== the reference's methods: places, laid, trials ===== -/
/-- a cell is where it is said of a beat -/
abbrev gf_plC (w : Nat → Nat → Int32) (doubt : Int32) (c b : Nat) : Prop := w 136 b = 0 ∨ ∃ r D : Nat, (nI (c % 40) - w 132 b) * (nI (c % 40) - w 132 b) + (nI (c / 40) - w 133 b) * (nI (c / 40) - w 133 b) = nI D ∧ D < 10000 ∧ r * r ≤ D ∧ D < (r + 1) * (r + 1) ∧ -doubt ≤ nI r - w 136 b ∧ nI r - w 136 b ≤ doubt
theorem gf_rt {a b D : Nat} (h1 : a * a ≤ D) (h2 : D < (a + 1) * (a + 1)) (h3 : b * b ≤ D) (h4 : D < (b + 1) * (b + 1)) : a = b := by
  rcases Nat.lt_trichotomy a b with h | h | h
  · have : (a + 1) * (a + 1) ≤ b * b := Nat.mul_le_mul h h
    omega
  · exact h
  · have : (b + 1) * (b + 1) ≤ a * a := Nat.mul_le_mul h h
    omega
def gf_plS (C : Nat → Prop) (dc : ∀ y, Decidable (C y)) (c : Nat) (s : Int32 × Int32) : Int32 × Int32 := @ite _ (C c) (dc c) (s.1 + 1, (if s.1 = 0 then nI c else s.2)) s
set_option maxRecDepth 100000 in
theorem gl_Rf_places {doubt what : Int32} {n c : Nat} {s : Int32 × Int32} (en : w 95 57 = nI n) (hn : n ≤ 14) (hc : c < 1600) (hD : ∀ b, b < n → ∃ D : Nat, D < 10000 ∧ (nI (c % 40) - w 132 b) * (nI (c % 40) - w 132 b) + (nI (c / 40) - w 133 b) * (nI (c / 40) - w 133 b) = nI D) (hy : (∀ b, b < n → gf_plC w doubt c b) → gp_Go l G (d + 1) m_Rf_places K 130 [some (.ref 95), some (.int doubt), some (.int what), some (.int s.1), some (.int s.2), some (.int (nI c)), some (.int 1), none, none] [] (gv w u q) 0 0) (hz : ¬ (∀ b, b < n → gf_plC w doubt c b) → gp_Go l G (d + 1) m_Rf_places K 130 [some (.ref 95), some (.int doubt), some (.int what), some (.int s.1), some (.int s.2), some (.int (nI c)), some (.int 0), none, none] [] (gv w u q) 0 0) : gp_Go l G (d + 1) m_Rf_places K 43 [some (.ref 95), some (.int doubt), some (.int what), some (.int s.1), some (.int s.2), some (.int (nI c)), some (.int 1), some (.int 0), none] [] (gv w u q) 0 0 := by
  have e40 : nI c - nI c / 40 * 40 = nI (c % 40) := pk_rem (d := 40) (by omega) (by decide) (by decide)
  have d40 : nI c / 40 = nI (c / 40) := pk_div (d := 40) (by omega) (by decide) (by decide)
  have no : ∀ x : Int32, ¬ (∀ b, b < n → gf_plC w doubt c b) → gp_Go l G (d + 1) m_Rf_places K 43 [some (.ref 95), some (.int doubt), some (.int what), some (.int s.1), some (.int s.2), some (.int (nI c)), some (.int 0), some (.int x), none] [] (gv w u q) 0 0 := by
    intro x hno
    refine gp_go od_Rf_places rfl ?_
    (repeat refine gp_gc [29, 43, 130] od_Rf_places rfl rfl ?_)
    by_cases b : w 95 57 ≤ x
    · refine gb_ge_t b ?_
      (repeat refine gp_gc [29, 43, 130] od_Rf_places rfl rfl ?_)
      refine gp_drop 7 ?_
      exact hz hno
    · refine gb_ge_f b ?_
      (repeat refine gp_gc [29, 43, 130] od_Rf_places rfl rfl ?_)
      refine gb1_eq_t rfl ?_
      (repeat refine gp_gc [29, 43, 130] od_Rf_places rfl rfl ?_)
      refine gp_drop 7 ?_
      exact hz hno
  have key : ∀ (r j : Nat) (x : Int32), j + r = n → x = nI j → (∀ t, t < j → gf_plC w doubt c t) → gp_Go l G (d + 1) m_Rf_places K 43 [some (.ref 95), some (.int doubt), some (.int what), some (.int s.1), some (.int s.2), some (.int (nI c)), some (.int 1), some (.int x), none] [] (gv w u q) 0 0 := by
    intro r
    induction r with
    | zero =>
      intro j x hj ex hall
      subst ex
      refine gp_go od_Rf_places rfl ?_
      (repeat refine gp_gc [29, 43, 130] od_Rf_places rfl rfl ?_)
      refine gb_ge_t (by rw [en]; exact nI_le (by omega) (by omega)) ?_
      (repeat refine gp_gc [29, 43, 130] od_Rf_places rfl rfl ?_)
      refine gp_drop 7 ?_
      exact hy (fun t ht => hall t (by omega))
    | succ r ih =>
      intro j x hj ex hall
      subst ex
      have ec : (nI j).toNatClampNeg = j := nI_clamp (by omega)
      have i1 : vp_in (nI j) 14 := vp_in_nI (by omega) (by decide)
      obtain ⟨D, hD1, hD2⟩ := hD j (by omega)
      refine gp_go od_Rf_places rfl ?_
      (repeat refine gp_gc [29, 43, 130] od_Rf_places rfl rfl ?_)
      refine gb_ge_f (by rw [en]; exact nI_ge (by omega) (by omega)) ?_
      (repeat refine gp_gc [29, 43, 130] od_Rf_places rfl rfl ?_)
      refine gb1_eq_f (by decide) ?_
      (repeat refine gp_gc [29, 43, 130] od_Rf_places rfl rfl ?_)
      refine And.intro (by decide) ?_
      (repeat refine gp_gc [29, 43, 130] od_Rf_places rfl rfl ?_)
      refine And.intro i1 ?_
      (repeat refine gp_gc [29, 43, 130] od_Rf_places rfl rfl ?_)
      refine And.intro (by decide) ?_
      (repeat refine gp_gc [29, 43, 130] od_Rf_places rfl rfl ?_)
      refine And.intro i1 ?_
      (repeat refine gp_gc [29, 43, 130] od_Rf_places rfl rfl ?_)
      refine sp_Rf_distance (d := d) (D := D) (by rw [ec]; show (nI c - nI c / 40 * 40 - w 132 j) * (nI c - nI c / 40 * 40 - w 132 j) + (nI c / 40 - w 133 j) * (nI c / 40 - w 133 j) = nI D; rw [e40, d40]; exact hD2) hD1 (fun rr g1 g2 => ?_)
      (repeat refine gp_gc [29, 43, 130] od_Rf_places rfl rfl ?_)
      refine And.intro i1 ?_
      (repeat refine gp_gc [29, 43, 130] od_Rf_places rfl rfl ?_)
      refine And.intro i1 ?_
      (repeat refine gp_gc [29, 43, 130] od_Rf_places rfl rfl ?_)
      rw [ec]
      by_cases b0 : w 136 j = 0
      · refine gb1_eq_t b0 ?_
        (repeat refine gp_gc [29, 43, 130] od_Rf_places rfl rfl ?_)
        refine gp_drop 8 ?_
        exact ih (j + 1) _ (by omega) (gp_inc rfl) (lt_s hall (Or.inl b0))
      refine gb1_eq_f b0 ?_
      (repeat refine gp_gc [29, 43, 130] od_Rf_places rfl rfl ?_)
      refine sp_Rf_isIn (fun a2 b2 => ?_) (fun n2 => ?_)
      · (repeat refine gp_gc [29, 43, 130] od_Rf_places rfl rfl ?_)
        refine gb1_eq_f (by decide) ?_
        (repeat refine gp_gc [29, 43, 130] od_Rf_places rfl rfl ?_)
        refine gp_drop 8 ?_
        exact ih (j + 1) _ (by omega) (gp_inc rfl) (lt_s hall (Or.inr ⟨rr, D, hD2, hD1, g1, g2, a2, b2⟩))
      · (repeat refine gp_gc [29, 43, 130] od_Rf_places rfl rfl ?_)
        refine gb1_eq_t rfl ?_
        (repeat refine gp_gc [29, 43, 130] od_Rf_places rfl rfl ?_)
        refine gp_drop 8 ?_
        refine no _ (fun z => ?_)
        rcases z j (by omega) with z | ⟨r', D', z1, z2, z3, z4, z5, z6⟩
        · exact b0 z
        · have eD : D' = D := (nI_eq (by omega) (by omega)).mp (z1.symm.trans hD2)
          subst eD
          have er := gf_rt g1 g2 z3 z4
          subst er
          exact n2 ⟨z5, z6⟩
  exact key n 0 _ (by omega) rfl (fun t ht => absurd ht (by omega))
set_option maxRecDepth 100000 in
theorem sp_Rf_places {doubt what : Int32} {n : Nat} (en : w 95 57 = nI n) (hn : n ≤ 14) (hD : ∀ c, c < 1600 → ∀ b, b < n → ∃ D : Nat, D < 10000 ∧ (nI (c % 40) - w 132 b) * (nI (c % 40) - w 132 b) + (nI (c / 40) - w 133 b) * (nI (c / 40) - w 133 b) = nI D) (dc : ∀ c : Nat, Decidable (∀ b, b < n → gf_plC w doubt c b)) (h0 : ¬ ((0 ≤ doubt ∧ doubt ≤ 55) ∧ 0 ≤ what ∧ what ≤ 1) → K (some (.int (-1))) (gv w u q)) (h1 : (0 ≤ doubt ∧ doubt ≤ 55) ∧ 0 ≤ what ∧ what ≤ 1 → ∀ s : Int32 × Int32, s = gp_it (gf_plS (fun c => ∀ b, b < n → gf_plC w doubt c b) dc) 0 1600 (0, -1) → K (some (.int (if what = 0 then s.1 else s.2))) (gv w u q)) : gp_Cal l G (d + 1) m_Rf_places [.ref 95, .int doubt, .int what] (gv w u q) K := by
  refine gp_enter od_Rf_places rfl ?_
  (repeat refine gp_gc [29, 43, 130] od_Rf_places rfl rfl ?_)
  refine sp_Rf_isIn (fun a1 b1 => ?_) (fun n1 => ?_)
  rotate_left
  · repeat refine gp_gc [29, 43, 130] od_Rf_places rfl rfl ?_
    first | refine And.intro (fun _ => ?_) (fun c => absurd rfl c) | refine And.intro (fun c => absurd rfl c) (fun _ => ?_)
    repeat refine gp_gc [29, 43, 130] od_Rf_places rfl rfl ?_
    exact h0 (fun z => n1 z.1)
  repeat refine gp_gc [29, 43, 130] od_Rf_places rfl rfl ?_
  first | refine And.intro (fun c => absurd c (by decide)) (fun _ => ?_) | refine And.intro (fun _ => ?_) (fun c => absurd c (by decide))
  repeat refine gp_gc [29, 43, 130] od_Rf_places rfl rfl ?_
  refine sp_Rf_isIn (fun a2 b2 => ?_) (fun n1 => ?_)
  rotate_left
  · repeat refine gp_gc [29, 43, 130] od_Rf_places rfl rfl ?_
    first | refine And.intro (fun _ => ?_) (fun c => absurd rfl c) | refine And.intro (fun c => absurd rfl c) (fun _ => ?_)
    repeat refine gp_gc [29, 43, 130] od_Rf_places rfl rfl ?_
    exact h0 (fun z => n1 z.2)
  repeat refine gp_gc [29, 43, 130] od_Rf_places rfl rfl ?_
  first | refine And.intro (fun c => absurd c (by decide)) (fun _ => ?_) | refine And.intro (fun _ => ?_) (fun c => absurd c (by decide))
  repeat refine gp_gc [29, 43, 130] od_Rf_places rfl rfl ?_
  refine gp_iter (P := fun j s => ∀ x, x = nI j → gp_Go l G (d + 1) m_Rf_places K 29 [some (.ref 95), some (.int doubt), some (.int what), some (.int s.1), some (.int s.2), some (.int x), none, none, none] [] (gv w u q) 0 0) (gf_plS (fun c => ∀ b, b < n → gf_plC w doubt c b) dc) 1600 ?_ 1600 0 (0, -1) (by omega) ?_ 0 rfl
  · intro c s hc hp x ex
    subst ex
    have hp := hp _ (gp_inc rfl)
    unfold gf_plS at hp
    refine gp_go od_Rf_places rfl ?_
    (repeat refine gp_gc [29, 43, 130] od_Rf_places rfl rfl ?_)
    refine gb_ge_f (nI_ge hc (by decide)) ?_
    (repeat refine gp_gc [29, 43, 130] od_Rf_places rfl rfl ?_)
    refine gl_Rf_places (s := s) en hn hc (hD c hc) (fun z => ?_) (fun z => ?_)
    · rw [if_pos z] at hp
      refine gp_go od_Rf_places rfl ?_
      (repeat refine gp_gc [29, 43, 130] od_Rf_places rfl rfl ?_)
      refine gb1_ne_t (by decide) ?_
      (repeat refine gp_gc [29, 43, 130] od_Rf_places rfl rfl ?_)
      by_cases b : s.1 = 0
      · rw [if_pos b] at hp
        refine gb1_ne_f b ?_
        (repeat refine gp_gc [29, 43, 130] od_Rf_places rfl rfl ?_)
        refine gp_drop 6 ?_
        exact hp
      · rw [if_neg b] at hp
        refine gb1_ne_t b ?_
        (repeat refine gp_gc [29, 43, 130] od_Rf_places rfl rfl ?_)
        refine gp_drop 6 ?_
        exact hp
    · rw [if_neg z] at hp
      refine gp_go od_Rf_places rfl ?_
      (repeat refine gp_gc [29, 43, 130] od_Rf_places rfl rfl ?_)
      refine gb1_ne_f rfl ?_
      (repeat refine gp_gc [29, 43, 130] od_Rf_places rfl rfl ?_)
      refine gp_drop 6 ?_
      exact hp
  · intro x ex
    subst ex
    have h := h1 ⟨⟨a1, b1⟩, a2, b2⟩ _ rfl
    refine gp_go od_Rf_places rfl ?_
    (repeat refine gp_gc [29, 43, 130] od_Rf_places rfl rfl ?_)
    refine gb_ge_t (Int32.le_refl _) ?_
    (repeat refine gp_gc [29, 43, 130] od_Rf_places rfl rfl ?_)
    by_cases b : what = 0
    · rw [if_pos b] at h
      refine gb1_ne_f b ?_
      (repeat refine gp_gc [29, 43, 130] od_Rf_places rfl rfl ?_)
      exact h
    · rw [if_neg b] at h
      refine gb1_ne_t b ?_
      (repeat refine gp_gc [29, 43, 130] od_Rf_places rfl rfl ?_)
      exact h
def gf_pkS (f : Nat → Int32) (i : Nat) (v : Int32) : Int32 := v ||| f i <<< ((2 * nI i) &&& 31)
set_option maxRecDepth 100000 in
theorem sp_Rf_cheapestNow {n : Nat} (en : w 95 2 = nI n) (hn : n ≤ 10) (h : K (some (.int (gp_it (gf_pkS (w 125)) 0 n 0))) (gv w u q)) : gp_Cal l G (d + 0) m_Rf_cheapestNow [.ref 95] (gv w u q) K := by
  refine gp_enter od_Rf_cheapestNow rfl ?_
  (repeat refine gp_gc [4] od_Rf_cheapestNow rfl rfl ?_)
  refine gp_iter (P := fun j s => ∀ x, x = nI j → gp_Go l G (d + 0) m_Rf_cheapestNow K 4 [some (.ref 95), some (.int s), some (.int x)] [] (gv w u q) 0 0) (gf_pkS (w 125)) n ?_ n 0 0 (by omega) ?_ 0 rfl
  · intro j s hj hp x ex
    subst ex
    have ec : (nI j).toNatClampNeg = j := nI_clamp (by omega)
    have hp := hp _ (gp_inc rfl)
    refine gp_go od_Rf_cheapestNow rfl ?_
    (repeat refine gp_gc [4] od_Rf_cheapestNow rfl rfl ?_)
    refine gb_ge_f (by rw [en]; exact nI_ge hj (by omega)) ?_
    (repeat refine gp_gc [4] od_Rf_cheapestNow rfl rfl ?_)
    refine And.intro (vp_in_nI (by omega) (by decide)) ?_
    (repeat refine gp_gc [4] od_Rf_cheapestNow rfl rfl ?_)
    rw [ec]
    exact hp
  · intro x ex
    subst ex
    refine gp_go od_Rf_cheapestNow rfl ?_
    (repeat refine gp_gc [4] od_Rf_cheapestNow rfl rfl ?_)
    refine gb_ge_t (by rw [en]; exact Int32.le_refl _) ?_
    (repeat refine gp_gc [4] od_Rf_cheapestNow rfl rfl ?_)
    exact h
set_option maxRecDepth 100000 in
theorem sp_Rf_isOfThis {t : Int32} {n i : Nat} (en : w 95 2 = nI n) (hn : n ≤ 10) (et : t = nI i) (hi : i < 40) (h1 : w 137 i = w 95 2 → (∀ j, j < n → w 138 (10 * i + j) = w 105 j) → K (some (.int 1)) (gv w u q)) (h0 : ¬ (w 137 i = w 95 2 ∧ ∀ j, j < n → w 138 (10 * i + j) = w 105 j) → K (some (.int 0)) (gv w u q)) : gp_Cal l G (d + 0) m_Rf_isOfThis [.ref 95, .int t] (gv w u q) K := by
  refine gp_enter od_Rf_isOfThis rfl ?_
  have ei : t.toNatClampNeg = i := by rw [et]; exact nI_clamp (by omega)
  have no : ∀ x : Int32, ¬ (w 137 i = w 95 2 ∧ ∀ j, j < n → w 138 (10 * i + j) = w 105 j) → gp_Go l G (d + 0) m_Rf_isOfThis K 21 [some (.ref 95), some (.int t), some (.int 0), some (.int x)] [] (gv w u q) 0 0 := by
    intro x hno
    refine gp_go od_Rf_isOfThis rfl ?_
    (repeat refine gp_gc [21] od_Rf_isOfThis rfl rfl ?_)
    by_cases b : w 95 2 ≤ x
    · refine gb_ge_t b ?_
      (repeat refine gp_gc [21] od_Rf_isOfThis rfl rfl ?_)
      exact And.intro (Or.inl rfl) (h0 hno)
    · refine gb_ge_f b ?_
      (repeat refine gp_gc [21] od_Rf_isOfThis rfl rfl ?_)
      refine gb1_eq_t rfl ?_
      (repeat refine gp_gc [21] od_Rf_isOfThis rfl rfl ?_)
      exact And.intro (Or.inl rfl) (h0 hno)
  (repeat refine gp_gc [21] od_Rf_isOfThis rfl rfl ?_)
  refine And.intro (by rw [et]; exact vp_in_nI hi (by decide)) ?_
  (repeat refine gp_gc [21] od_Rf_isOfThis rfl rfl ?_)
  rw [ei]
  by_cases b0 : w 137 i = w 95 2
  rotate_left
  · refine gb_ne_t b0 ?_
    (repeat refine gp_gc [21] od_Rf_isOfThis rfl rfl ?_)
    exact no _ (fun z => b0 z.1)
  refine gb_ne_f b0 ?_
  (repeat refine gp_gc [21] od_Rf_isOfThis rfl rfl ?_)
  have key : ∀ (r j : Nat) (x : Int32), j + r = n → x = nI j → (∀ k, k < j → w 138 (10 * i + k) = w 105 k) → gp_Go l G (d + 0) m_Rf_isOfThis K 21 [some (.ref 95), some (.int t), some (.int 1), some (.int x)] [] (gv w u q) 0 0 := by
    intro r
    induction r with
    | zero =>
      intro j x hj ex hall
      subst ex
      refine gp_go od_Rf_isOfThis rfl ?_
      (repeat refine gp_gc [21] od_Rf_isOfThis rfl rfl ?_)
      refine gb_ge_t (by rw [en]; exact nI_le (by omega) (by omega)) ?_
      (repeat refine gp_gc [21] od_Rf_isOfThis rfl rfl ?_)
      exact And.intro (Or.inr rfl) (h1 b0 (fun k hk => hall k (by omega)))
    | succ r ih =>
      intro j x hj ex hall
      subst ex
      have ec : (nI j).toNatClampNeg = j := nI_clamp (by omega)
      have e10 : 10 * t + nI j = nI (10 * i + j) := by rw [et]; show nI 10 * nI i + nI j = _; rw [pk_mul, nI_add]
      have ec2 : (10 * t + nI j).toNatClampNeg = 10 * i + j := by rw [e10]; exact nI_clamp (by omega)
      refine gp_go od_Rf_isOfThis rfl ?_
      (repeat refine gp_gc [21] od_Rf_isOfThis rfl rfl ?_)
      refine gb_ge_f (by rw [en]; exact nI_ge (by omega) (by omega)) ?_
      (repeat refine gp_gc [21] od_Rf_isOfThis rfl rfl ?_)
      refine gb1_eq_f (by decide) ?_
      (repeat refine gp_gc [21] od_Rf_isOfThis rfl rfl ?_)
      refine And.intro (show vp_in (10 * t + nI j) 400 by rw [e10]; exact vp_in_nI (by omega) (by decide)) ?_
      (repeat refine gp_gc [21] od_Rf_isOfThis rfl rfl ?_)
      refine And.intro (vp_in_nI (by omega) (by decide)) ?_
      (repeat refine gp_gc [21] od_Rf_isOfThis rfl rfl ?_)
      rw [ec]
      by_cases b : w 138 (10 * t + nI j).toNatClampNeg = w 105 j
      · refine gb_ne_f b ?_
        (repeat refine gp_gc [21] od_Rf_isOfThis rfl rfl ?_)
        exact ih (j + 1) _ (by omega) (gp_inc rfl) (lt_s hall (by rw [← ec2]; exact b))
      · refine gb_ne_t b ?_
        (repeat refine gp_gc [21] od_Rf_isOfThis rfl rfl ?_)
        exact no _ (fun z => b (by rw [ec2]; exact z.2 j (by omega)))
  exact key n 0 _ (by omega) rfl (fun k hk => absurd hk (by omega))

end
