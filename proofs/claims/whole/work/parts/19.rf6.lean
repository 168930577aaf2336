section
variable {l : Launch} {G : gp_G} {d : Nat} {w : Nat → Nat → Int32} {u : Int64 × (Nat → Int64)} {q : Nat → Nat} {K : Option Value → gp_H → Prop}
/-! ===== the reference's methods: tell, put, end, feed ===== -/
abbrev gf_okT (what v m th a b : Int32) : Prop := (what = 0 ∧ 0 ≤ v ∧ v ≤ 1 <<< (m &&& 31) - 1) ∨ (what = 1 ∧ 0 ≤ v ∧ v ≤ 255) ∨ (what = 2 ∧ (-1 ≤ v ∧ v ≤ 15) ∧ ¬ v = th ∧ ¬ (v = -1 ∧ ¬ b = -1)) ∨ (what = 3 ∧ (-1 ≤ v ∧ v ≤ 15) ∧ ¬ v = th ∧ ¬ (¬ v = -1 ∧ a = -1))
theorem gf_w3 {x : Int32} (h0 : 0 ≤ x) (h1 : x ≤ 3) : x = 0 ∨ x = 1 ∨ x = 2 ∨ x = 3 := by
  obtain ⟨j, hj, rfl⟩ := nI_of2 (n := 3) (M := 3) rfl (Int32.not_lt.mpr h0) h1
  rcases (show j = 0 ∨ j = 1 ∨ j = 2 ∨ j = 3 by omega) with rfl | rfl | rfl | rfl
  · exact Or.inl rfl
  · exact Or.inr (Or.inl rfl)
  · exact Or.inr (Or.inr (Or.inl rfl))
  · exact Or.inr (Or.inr (Or.inr rfl))
set_option maxRecDepth 100000 in
theorem sp_Rf_tell {m what v : Int32} (hin : 0 ≤ m → m ≤ w 95 0 - 1 → vp_in m 16 ∧ vp_in (2 * m) 32 ∧ vp_in (2 * m + 1) 32 ∧ vp_in (2 * m + 2 - 2) 32 ∧ vp_in (2 * m + 3 - 2) 32) (h0 : ¬ ((0 ≤ m ∧ m ≤ w 95 0 - 1) ∧ gf_okT what v m (w 97 m.toNatClampNeg) (w 103 (2 * m).toNatClampNeg) (w 103 (2 * m + 1).toNatClampNeg)) → K (some (.int 0)) (gv w u q)) (hA : 0 ≤ m ∧ m ≤ w 95 0 - 1 → what = 0 → gf_okT what v m (w 97 m.toNatClampNeg) (w 103 (2 * m).toNatClampNeg) (w 103 (2 * m + 1).toNatClampNeg) → K (some (.int 1)) (gv (gw w 101 m.toNatClampNeg v) u q)) (hB : 0 ≤ m ∧ m ≤ w 95 0 - 1 → what = 1 → gf_okT what v m (w 97 m.toNatClampNeg) (w 103 (2 * m).toNatClampNeg) (w 103 (2 * m + 1).toNatClampNeg) → K (some (.int 1)) (gv (gw w 102 m.toNatClampNeg v) u q)) (hC : 0 ≤ m ∧ m ≤ w 95 0 - 1 → what = 2 → gf_okT what v m (w 97 m.toNatClampNeg) (w 103 (2 * m).toNatClampNeg) (w 103 (2 * m + 1).toNatClampNeg) → K (some (.int 1)) (gv (gw w 103 (2 * m + 2 - 2).toNatClampNeg v) u q)) (hD : 0 ≤ m ∧ m ≤ w 95 0 - 1 → what = 3 → gf_okT what v m (w 97 m.toNatClampNeg) (w 103 (2 * m).toNatClampNeg) (w 103 (2 * m + 1).toNatClampNeg) → K (some (.int 1)) (gv (gw w 103 (2 * m + 3 - 2).toNatClampNeg v) u q)) : gp_Cal l G (d + 2) m_Rf_tell [.ref 95, .int m, .int what, .int v] (gv w u q) K := by
  refine gp_enter od_Rf_tell rfl ?_
  (repeat refine gp_gc [] od_Rf_tell rfl rfl ?_)
  refine sp_Rf_isMark (fun a1 b1 => ?_) (fun n1 => ?_)
  rotate_left
  · repeat refine gp_gc [] od_Rf_tell rfl rfl ?_
    first | refine And.intro (fun _ => ?_) (fun c => absurd rfl c) | refine And.intro (fun c => absurd rfl c) (fun _ => ?_)
    repeat refine gp_gc [] od_Rf_tell rfl rfl ?_
    exact And.intro (Or.inl rfl) (h0 (fun z => n1 z.1))
  repeat refine gp_gc [] od_Rf_tell rfl rfl ?_
  first | refine And.intro (fun c => absurd c (by decide)) (fun _ => ?_) | refine And.intro (fun _ => ?_) (fun c => absurd c (by decide))
  repeat refine gp_gc [] od_Rf_tell rfl rfl ?_
  obtain ⟨i1, i2, i3, i4, i5⟩ := hin a1 b1
  refine sp_Rf_isIn (fun a2 b2 => ?_) (fun n2 => ?_)
  rotate_left
  · (repeat refine gp_gc [] od_Rf_tell rfl rfl ?_)
    refine gb1_ne_f rfl ?_
    (repeat refine gp_gc [] od_Rf_tell rfl rfl ?_)
    exact And.intro (Or.inl rfl) (h0 (fun z => n2 (by rcases z.2 with ⟨e, -⟩ | ⟨e, -⟩ | ⟨e, -⟩ | ⟨e, -⟩ <;> subst e <;> exact ⟨by decide, by decide⟩)))
  rcases gf_w3 a2 b2 with rfl | rfl | rfl | rfl
  · (repeat refine gp_gc [] od_Rf_tell rfl rfl ?_)
    refine gb1_ne_t (by decide) ?_
    (repeat refine gp_gc [] od_Rf_tell rfl rfl ?_)
    refine gb1_ne_f rfl ?_
    (repeat refine gp_gc [] od_Rf_tell rfl rfl ?_)
    refine sp_Rf_isIn (fun a3 b3 => ?_) (fun n3 => ?_)
    · have hA := hA ⟨a1, b1⟩ rfl (Or.inl ⟨rfl, a3, b3⟩)
      (repeat refine gp_gc [] od_Rf_tell rfl rfl ?_)
      refine gb1_eq_f (by decide) ?_
      (repeat refine gp_gc [] od_Rf_tell rfl rfl ?_)
      refine gb_ne_t (by decide) ?_
      (repeat refine gp_gc [] od_Rf_tell rfl rfl ?_)
      refine gb_le_t (by decide) ?_
      (repeat refine gp_gc [] od_Rf_tell rfl rfl ?_)
      refine gb_ne_t (by decide) ?_
      (repeat refine gp_gc [] od_Rf_tell rfl rfl ?_)
      refine gb_ne_t (by decide) ?_
      (repeat refine gp_gc [] od_Rf_tell rfl rfl ?_)
      refine gb1_ne_f rfl ?_
      (repeat refine gp_gc [] od_Rf_tell rfl rfl ?_)
      refine And.intro i1 ?_
      (repeat refine gp_gc [] od_Rf_tell rfl rfl ?_)
      refine gb_ne_t (by decide) ?_
      (repeat refine gp_gc [] od_Rf_tell rfl rfl ?_)
      refine gb_le_t (by decide) ?_
      (repeat refine gp_gc [] od_Rf_tell rfl rfl ?_)
      exact And.intro (Or.inr rfl) hA
    · (repeat refine gp_gc [] od_Rf_tell rfl rfl ?_)
      refine gb1_eq_t rfl ?_
      (repeat refine gp_gc [] od_Rf_tell rfl rfl ?_)
      exact And.intro (Or.inl rfl) (h0 (fun z => by
        rcases z.2 with ⟨e, z⟩ | ⟨e, z⟩ | ⟨e, z⟩ | ⟨e, z⟩
        · exact n3 z
        · exact absurd e (by decide)
        · exact absurd e (by decide)
        · exact absurd e (by decide)))
  · (repeat refine gp_gc [] od_Rf_tell rfl rfl ?_)
    refine gb1_ne_t (by decide) ?_
    (repeat refine gp_gc [] od_Rf_tell rfl rfl ?_)
    refine gb1_ne_t (by decide) ?_
    (repeat refine gp_gc [] od_Rf_tell rfl rfl ?_)
    refine gb_ne_f rfl ?_
    (repeat refine gp_gc [] od_Rf_tell rfl rfl ?_)
    refine sp_Rf_isIn (fun a3 b3 => ?_) (fun n3 => ?_)
    · have hB := hB ⟨a1, b1⟩ rfl (Or.inr (Or.inl ⟨rfl, a3, b3⟩))
      (repeat refine gp_gc [] od_Rf_tell rfl rfl ?_)
      refine gb1_ne_t (by decide) ?_
      (repeat refine gp_gc [] od_Rf_tell rfl rfl ?_)
      refine gb_le_t (by decide) ?_
      (repeat refine gp_gc [] od_Rf_tell rfl rfl ?_)
      refine gb_ne_t (by decide) ?_
      (repeat refine gp_gc [] od_Rf_tell rfl rfl ?_)
      refine gb_ne_t (by decide) ?_
      (repeat refine gp_gc [] od_Rf_tell rfl rfl ?_)
      refine gb1_ne_t (by decide) ?_
      (repeat refine gp_gc [] od_Rf_tell rfl rfl ?_)
      refine gb_ne_f rfl ?_
      (repeat refine gp_gc [] od_Rf_tell rfl rfl ?_)
      refine And.intro i1 ?_
      (repeat refine gp_gc [] od_Rf_tell rfl rfl ?_)
      refine gb_le_t (by decide) ?_
      (repeat refine gp_gc [] od_Rf_tell rfl rfl ?_)
      exact And.intro (Or.inr rfl) hB
    · (repeat refine gp_gc [] od_Rf_tell rfl rfl ?_)
      refine gb1_ne_f rfl ?_
      (repeat refine gp_gc [] od_Rf_tell rfl rfl ?_)
      exact And.intro (Or.inl rfl) (h0 (fun z => by
        rcases z.2 with ⟨e, z⟩ | ⟨e, z⟩ | ⟨e, z⟩ | ⟨e, z⟩
        · exact absurd e (by decide)
        · exact n3 z
        · exact absurd e (by decide)
        · exact absurd e (by decide)))
  · (repeat refine gp_gc [] od_Rf_tell rfl rfl ?_)
    refine gb1_ne_t (by decide) ?_
    (repeat refine gp_gc [] od_Rf_tell rfl rfl ?_)
    refine gb1_ne_t (by decide) ?_
    (repeat refine gp_gc [] od_Rf_tell rfl rfl ?_)
    refine gb_ne_t (by decide) ?_
    (repeat refine gp_gc [] od_Rf_tell rfl rfl ?_)
    refine gb_le_f (by decide) ?_
    (repeat refine gp_gc [] od_Rf_tell rfl rfl ?_)
    refine sp_Rf_isIn (fun a3 b3 => ?_) (fun n3 => ?_)
    rotate_left
    · (repeat refine gp_gc [] od_Rf_tell rfl rfl ?_)
      refine gb1_eq_t rfl ?_
      (repeat refine gp_gc [] od_Rf_tell rfl rfl ?_)
      exact And.intro (Or.inl rfl) (h0 (fun z => by
        rcases z.2 with ⟨e, z⟩ | ⟨e, z⟩ | ⟨e, z⟩ | ⟨e, z⟩
        · exact absurd e (by decide)
        · exact absurd e (by decide)
        · exact n3 z.1
        · exact absurd e (by decide)))
    (repeat refine gp_gc [] od_Rf_tell rfl rfl ?_)
    refine gb1_eq_f (by decide) ?_
    (repeat refine gp_gc [] od_Rf_tell rfl rfl ?_)
    refine And.intro i1 ?_
    (repeat refine gp_gc [] od_Rf_tell rfl rfl ?_)
    by_cases b4 : v = w 97 m.toNatClampNeg
    · refine gb_ne_f b4 ?_
      (repeat refine gp_gc [] od_Rf_tell rfl rfl ?_)
      exact And.intro (Or.inl rfl) (h0 (fun z => by
        rcases z.2 with ⟨e, z⟩ | ⟨e, z⟩ | ⟨e, z⟩ | ⟨e, z⟩
        · exact absurd e (by decide)
        · exact absurd e (by decide)
        · exact z.2.1 b4
        · exact absurd e (by decide)))
    refine gb_ne_t b4 ?_
    (repeat refine gp_gc [] od_Rf_tell rfl rfl ?_)
    refine gb_ne_f rfl ?_
    (repeat refine gp_gc [] od_Rf_tell rfl rfl ?_)
    have fin : ∀ hh : ¬ (v = -1 ∧ ¬ w 103 (2 * m + 1).toNatClampNeg = -1), gp_Go l G (d + 2) m_Rf_tell K 105 [some (.ref 95), some (.int m), some (.int 2), some (.int v)] [] (gv w u q) 0 0 := by
      intro hh
      have hC := hC ⟨a1, b1⟩ rfl (Or.inr (Or.inr (Or.inl ⟨rfl, ⟨a3, b3⟩, b4, hh⟩)))
      refine gp_go od_Rf_tell rfl ?_
      (repeat refine gp_gc [] od_Rf_tell rfl rfl ?_)
      refine gb_ne_t (by decide) ?_
      (repeat refine gp_gc [] od_Rf_tell rfl rfl ?_)
      refine gb1_ne_t (by decide) ?_
      (repeat refine gp_gc [] od_Rf_tell rfl rfl ?_)
      refine gb_ne_t (by decide) ?_
      (repeat refine gp_gc [] od_Rf_tell rfl rfl ?_)
      refine gb_le_f (by decide) ?_
      (repeat refine gp_gc [] od_Rf_tell rfl rfl ?_)
      refine And.intro i4 ?_
      (repeat refine gp_gc [] od_Rf_tell rfl rfl ?_)
      exact And.intro (Or.inr rfl) hC
    by_cases b5 : v = -1
    rotate_left
    · refine gb_ne_t b5 ?_
      (repeat refine gp_gc [105] od_Rf_tell rfl rfl ?_)
      exact fin (fun z => b5 z.1)
    refine gb_ne_f b5 ?_
    (repeat refine gp_gc [105] od_Rf_tell rfl rfl ?_)
    refine And.intro i3 ?_
    (repeat refine gp_gc [105] od_Rf_tell rfl rfl ?_)
    by_cases b6 : w 103 (2 * m + 1).toNatClampNeg = -1
    · refine gb_ne_f b6 ?_
      (repeat refine gp_gc [105] od_Rf_tell rfl rfl ?_)
      exact fin (fun z => z.2 b6)
    · refine gb_ne_t b6 ?_
      (repeat refine gp_gc [105] od_Rf_tell rfl rfl ?_)
      exact And.intro (Or.inl rfl) (h0 (fun z => by
        rcases z.2 with ⟨e, z⟩ | ⟨e, z⟩ | ⟨e, z⟩ | ⟨e, z⟩
        · exact absurd e (by decide)
        · exact absurd e (by decide)
        · exact z.2.2 ⟨b5, b6⟩
        · exact absurd e (by decide)))
  · (repeat refine gp_gc [] od_Rf_tell rfl rfl ?_)
    refine gb1_ne_t (by decide) ?_
    (repeat refine gp_gc [] od_Rf_tell rfl rfl ?_)
    refine gb1_ne_t (by decide) ?_
    (repeat refine gp_gc [] od_Rf_tell rfl rfl ?_)
    refine gb_ne_t (by decide) ?_
    (repeat refine gp_gc [] od_Rf_tell rfl rfl ?_)
    refine gb_le_f (by decide) ?_
    (repeat refine gp_gc [] od_Rf_tell rfl rfl ?_)
    refine sp_Rf_isIn (fun a3 b3 => ?_) (fun n3 => ?_)
    rotate_left
    · (repeat refine gp_gc [] od_Rf_tell rfl rfl ?_)
      refine gb1_eq_t rfl ?_
      (repeat refine gp_gc [] od_Rf_tell rfl rfl ?_)
      exact And.intro (Or.inl rfl) (h0 (fun z => by
        rcases z.2 with ⟨e, z⟩ | ⟨e, z⟩ | ⟨e, z⟩ | ⟨e, z⟩
        · exact absurd e (by decide)
        · exact absurd e (by decide)
        · exact absurd e (by decide)
        · exact n3 z.1))
    (repeat refine gp_gc [] od_Rf_tell rfl rfl ?_)
    refine gb1_eq_f (by decide) ?_
    (repeat refine gp_gc [] od_Rf_tell rfl rfl ?_)
    refine And.intro i1 ?_
    (repeat refine gp_gc [] od_Rf_tell rfl rfl ?_)
    by_cases b4 : v = w 97 m.toNatClampNeg
    · refine gb_ne_f b4 ?_
      (repeat refine gp_gc [] od_Rf_tell rfl rfl ?_)
      exact And.intro (Or.inl rfl) (h0 (fun z => by
        rcases z.2 with ⟨e, z⟩ | ⟨e, z⟩ | ⟨e, z⟩ | ⟨e, z⟩
        · exact absurd e (by decide)
        · exact absurd e (by decide)
        · exact absurd e (by decide)
        · exact z.2.1 b4))
    refine gb_ne_t b4 ?_
    (repeat refine gp_gc [] od_Rf_tell rfl rfl ?_)
    refine gb_ne_t (by decide) ?_
    (repeat refine gp_gc [] od_Rf_tell rfl rfl ?_)
    refine gb_ne_f rfl ?_
    (repeat refine gp_gc [] od_Rf_tell rfl rfl ?_)
    have fin : ∀ hh : ¬ (¬ v = -1 ∧ w 103 (2 * m).toNatClampNeg = -1), gp_Go l G (d + 2) m_Rf_tell K 129 [some (.ref 95), some (.int m), some (.int 3), some (.int v)] [] (gv w u q) 0 0 := by
      intro hh
      have hD := hD ⟨a1, b1⟩ rfl (Or.inr (Or.inr (Or.inr ⟨rfl, ⟨a3, b3⟩, b4, hh⟩)))
      refine gp_go od_Rf_tell rfl ?_
      (repeat refine gp_gc [] od_Rf_tell rfl rfl ?_)
      refine gb1_ne_t (by decide) ?_
      (repeat refine gp_gc [] od_Rf_tell rfl rfl ?_)
      refine gb_ne_t (by decide) ?_
      (repeat refine gp_gc [] od_Rf_tell rfl rfl ?_)
      refine gb_le_f (by decide) ?_
      (repeat refine gp_gc [] od_Rf_tell rfl rfl ?_)
      refine And.intro i5 ?_
      (repeat refine gp_gc [] od_Rf_tell rfl rfl ?_)
      exact And.intro (Or.inr rfl) hD
    by_cases b5 : v = -1
    · refine gb_eq_t b5 ?_
      (repeat refine gp_gc [129] od_Rf_tell rfl rfl ?_)
      exact fin (fun z => z.1 b5)
    refine gb_eq_f b5 ?_
    (repeat refine gp_gc [129] od_Rf_tell rfl rfl ?_)
    refine And.intro i2 ?_
    (repeat refine gp_gc [129] od_Rf_tell rfl rfl ?_)
    by_cases b6 : w 103 (2 * m).toNatClampNeg = -1
    rotate_left
    · refine gb_ne_t b6 ?_
      (repeat refine gp_gc [129] od_Rf_tell rfl rfl ?_)
      exact fin (fun z => b6 z.2)
    · refine gb_ne_f b6 ?_
      (repeat refine gp_gc [129] od_Rf_tell rfl rfl ?_)
      exact And.intro (Or.inl rfl) (h0 (fun z => by
        rcases z.2 with ⟨e, z⟩ | ⟨e, z⟩ | ⟨e, z⟩ | ⟨e, z⟩
        · exact absurd e (by decide)
        · exact absurd e (by decide)
        · exact absurd e (by decide)
        · exact z.2.2 ⟨b5, b6⟩))
set_option maxRecDepth 100000 in
theorem sp_Rf_put {m : Int32} {k : Nat} (hk : w 95 2 = nI k) (hk16 : k ≤ 16) (hin : 0 ≤ m ∧ m ≤ w 95 0 - 1 → (∀ i, i < k → ¬ w 105 i = m) → k < 16) (h2 : m = -1 → K (some (.int 0)) (gv (gw w 95 2 0) u q)) (h0 : ¬ m = -1 → ¬ ((0 ≤ m ∧ m ≤ w 95 0 - 1) ∧ ∀ i, i < k → ¬ w 105 i = m) → K (some (.int (-1))) (gv w u q)) (h1 : ¬ m = -1 → 0 ≤ m ∧ m ≤ w 95 0 - 1 → (∀ i, i < k → ¬ w 105 i = m) → K (some (.int (w 95 2 + 1))) (gv (gw (gw w 105 (w 95 2).toNatClampNeg m) 95 2 (w 95 2 + 1)) u q)) : gp_Cal l G (d + 2) m_Rf_put [.ref 95, .int m] (gv w u q) K := by
  refine gp_enter od_Rf_put rfl ?_
  (repeat refine gp_gc [24] od_Rf_put rfl rfl ?_)
  by_cases b0 : m = -1
  · refine gb_ne_f b0 ?_
    (repeat refine gp_gc [24] od_Rf_put rfl rfl ?_)
    exact h2 b0
  refine gb_ne_t b0 ?_
  (repeat refine gp_gc [24] od_Rf_put rfl rfl ?_)
  refine sp_Rf_isMark (fun a1 b1 => ?_) (fun n1 => ?_)
  rotate_left
  · repeat refine gp_gc [24] od_Rf_put rfl rfl ?_
    first | refine And.intro (fun _ => ?_) (fun c => absurd rfl c) | refine And.intro (fun c => absurd rfl c) (fun _ => ?_)
    repeat refine gp_gc [24] od_Rf_put rfl rfl ?_
    exact h0 b0 (fun z => n1 z.1)
  repeat refine gp_gc [24] od_Rf_put rfl rfl ?_
  first | refine And.intro (fun c => absurd c (by decide)) (fun _ => ?_) | refine And.intro (fun _ => ?_) (fun c => absurd c (by decide))
  repeat refine gp_gc [24] od_Rf_put rfl rfl ?_
  have key : ∀ (r j : Nat) (x : Int32), j + r = k → x = nI j → (∀ t, t < j → ¬ w 105 t = m) → gp_Go l G (d + 2) m_Rf_put K 24 [some (.ref 95), some (.int m), some (.int x)] [] (gv w u q) 0 0 := by
    intro r
    induction r with
    | zero =>
      intro j x hj ex hall
      subst ex
      have hj : j = k := by omega
      subst hj
      have hlt := hin ⟨a1, b1⟩ hall
      refine gp_go od_Rf_put rfl ?_
      (repeat refine gp_gc [24] od_Rf_put rfl rfl ?_)
      refine gb_ge_t (by rw [hk]; exact Int32.le_refl _) ?_
      (repeat refine gp_gc [24] od_Rf_put rfl rfl ?_)
      refine And.intro (by rw [hk]; exact vp_in_nI hlt (by decide)) ?_
      (repeat refine gp_gc [24] od_Rf_put rfl rfl ?_)
      exact h1 b0 ⟨a1, b1⟩ hall
    | succ r ih =>
      intro j x hj ex hall
      subst ex
      have ec : (nI j).toNatClampNeg = j := nI_clamp (by omega)
      refine gp_go od_Rf_put rfl ?_
      (repeat refine gp_gc [24] od_Rf_put rfl rfl ?_)
      refine gb_ge_f (by rw [hk]; exact nI_ge (by omega) (by omega)) ?_
      (repeat refine gp_gc [24] od_Rf_put rfl rfl ?_)
      refine And.intro (vp_in_nI (by omega) (by decide)) ?_
      (repeat refine gp_gc [24] od_Rf_put rfl rfl ?_)
      rw [ec]
      by_cases b2 : w 105 j = m
      · refine gb_ne_f b2 ?_
        (repeat refine gp_gc [24] od_Rf_put rfl rfl ?_)
        exact h0 b0 (fun z => z.2 j (by omega) b2)
      · refine gb_ne_t b2 ?_
        (repeat refine gp_gc [24] od_Rf_put rfl rfl ?_)
        exact ih (j + 1) _ (by omega) (gp_inc rfl) (lt_s hall b2)
  exact key k 0 _ (by omega) rfl (fun t ht => absurd ht (by omega))
set_option maxRecDepth 100000 in
theorem sp_Rf_end {v : Int32} (h1 : 0 ≤ v ∧ v ≤ w 95 33 → K (some (.int 1)) (gv (gw w 95 33 v) u q)) (h0 : ¬ (0 ≤ v ∧ v ≤ w 95 33) → K (some (.int 0)) (gv w u q)) : gp_Cal l G (d + 1) m_Rf_end [.ref 95, .int v] (gv w u q) K := by
  refine gp_enter od_Rf_end rfl ?_
  (repeat refine gp_gc [] od_Rf_end rfl rfl ?_)
  refine sp_Rf_isIn (fun a1 b1 => ?_) (fun n1 => ?_)
  rotate_left
  · repeat refine gp_gc [] od_Rf_end rfl rfl ?_
    first | refine And.intro (fun _ => ?_) (fun c => absurd rfl c) | refine And.intro (fun c => absurd rfl c) (fun _ => ?_)
    repeat refine gp_gc [] od_Rf_end rfl rfl ?_
    exact And.intro (Or.inl rfl) (h0 n1)
  repeat refine gp_gc [] od_Rf_end rfl rfl ?_
  first | refine And.intro (fun c => absurd c (by decide)) (fun _ => ?_) | refine And.intro (fun _ => ?_) (fun c => absurd c (by decide))
  repeat refine gp_gc [] od_Rf_end rfl rfl ?_
  exact And.intro (Or.inr rfl) (h1 ⟨a1, b1⟩)

end
