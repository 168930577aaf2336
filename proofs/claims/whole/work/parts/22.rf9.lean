section
variable {l : Launch} {G : gp_G} {d : Nat} {w : Nat → Nat → Int32} {u : Int64 × (Nat → Int64)} {q : Nat → Nat} {K : Option Value → gp_H → Prop}
/-! ===== the reference's methods: primes, grids laid, times, places ===== -/
set_option maxRecDepth 100000 in
theorem sp_Rf_isPrime {v : Int32} {n : Nat} (ev : v = nI n) (hn : n < 2 ^ 30) (h1 : (∀ e, 2 ≤ e → e < n → ¬ n % e = 0) → 1 < n → K (some (.int 1)) (gv w u q)) (h0 : ¬ ((∀ e, 2 ≤ e → e < n → ¬ n % e = 0) ∧ 1 < n) → K (some (.int 0)) (gv w u q)) : gp_Cal l G (d + 0) m_Rf_isPrime [.int v] (gv w u q) K := by
  refine gp_enter od_Rf_isPrime rfl ?_
  subst ev
  (repeat refine gp_gc [2] od_Rf_isPrime rfl rfl ?_)
  have fin : ∀ (j : Nat), n ≤ j → j < 2 ^ 31 → (∀ t, 2 ≤ t → t < j → t < n → ¬ n % t = 0) → gp_Go l G (d + 0) m_Rf_isPrime K 2 [some (.int (nI n)), some (.int (nI j))] [] (gv w u q) 0 0 := by
    intro j hj hj2 hall
    refine gp_go od_Rf_isPrime rfl ?_
    (repeat refine gp_gc [2] od_Rf_isPrime rfl rfl ?_)
    refine gb_ge_t (nI_le hj hj2) ?_
    (repeat refine gp_gc [2] od_Rf_isPrime rfl rfl ?_)
    by_cases b : 1 < n
    · refine gb_le_f' (nI_lt (a := 1) b (by omega)) ?_
      (repeat refine gp_gc [2] od_Rf_isPrime rfl rfl ?_)
      exact And.intro (Or.inr rfl) (h1 (fun t a c => hall t a (by omega) c) b)
    · refine gb_le_t' (nI_nlt (b := n) (a := 1) (by omega) (by decide)) ?_
      (repeat refine gp_gc [2] od_Rf_isPrime rfl rfl ?_)
      exact And.intro (Or.inl rfl) (h0 (fun z => b z.2))
  have key : ∀ (r j : Nat), j + r = n → 2 ≤ j → (∀ t, 2 ≤ t → t < j → t < n → ¬ n % t = 0) → gp_Go l G (d + 0) m_Rf_isPrime K 2 [some (.int (nI n)), some (.int (nI j))] [] (gv w u q) 0 0 := by
    intro r
    induction r with
    | zero => intro j hj h2 hall; exact fin j (by omega) (by omega) hall
    | succ r ih =>
      intro j hj h2 hall
      have e1 : nI n - nI n / nI j * nI j = nI (n % j) := pk_rem (by omega) (by omega) (by omega)
      have hm : n % j < 2 ^ 31 := Nat.lt_of_lt_of_le (Nat.mod_lt n (by omega)) (by omega)
      refine gp_go od_Rf_isPrime rfl ?_
      (repeat refine gp_gc [2] od_Rf_isPrime rfl rfl ?_)
      refine gb_ge_f (nI_ge (by omega) (by omega)) ?_
      (repeat refine gp_gc [2] od_Rf_isPrime rfl rfl ?_)
      refine And.intro (nI_ne0 (by omega) (by omega)) ?_
      (repeat refine gp_gc [2] od_Rf_isPrime rfl rfl ?_)
      rw [e1]
      by_cases b : n % j = 0
      · refine gb1_ne_f (by rw [b]; rfl) ?_
        (repeat refine gp_gc [2] od_Rf_isPrime rfl rfl ?_)
        exact And.intro (Or.inl rfl) (h0 (fun z => z.1 j h2 (by omega) b))
      · refine gb1_ne_t (nI_ne0 (Nat.pos_of_ne_zero b) hm) ?_
        (repeat refine gp_gc [2] od_Rf_isPrime rfl rfl ?_)
        have e2 : nI j + Int32.ofInt 1 = nI (j + 1) := gp_inc rfl
        rw [e2]
        refine ih (j + 1) (by omega) (by omega) (fun t a c c2 => ?_)
        by_cases et : t = j
        · rw [et]; exact b
        · exact hall t a (by omega) c2
  by_cases b : 2 ≤ n
  · exact key (n - 2) 2 (by omega) (by omega) (fun t a c => absurd c (by omega))
  · exact fin 2 (by omega) (by decide) (fun t a c => absurd c (by omega))
set_option maxRecDepth 100000 in
theorem sp_Rf_distance {dx dy : Int32} {D : Nat} (eD : dx * dx + dy * dy = nI D) (hD : D < 10000) (h : ∀ r, r * r ≤ D → D < (r + 1) * (r + 1) → K (some (.int (nI r))) (gv w u q)) : gp_Cal l G (d + 0) m_Rf_distance [.int dx, .int dy] (gv w u q) K := by
  refine gp_enter od_Rf_distance rfl ?_
  (repeat refine gp_gc [2] od_Rf_distance rfl rfl ?_)
  have key : ∀ (f r : Nat), r + f = 100 → r * r ≤ D → gp_Go l G (d + 0) m_Rf_distance K 2 [some (.int dx), some (.int dy), some (.int (nI r))] [] (gv w u q) 0 0 := by
    intro f
    induction f with
    | zero =>
      intro r hr hs
      have : r = 100 := by omega
      subst this
      omega
    | succ f ih =>
      intro r hr hs
      have e1 : nI r + Int32.ofInt 1 = nI (r + 1) := gp_inc rfl
      have e2 : (nI r + Int32.ofInt 1) * (nI r + Int32.ofInt 1) = nI ((r + 1) * (r + 1)) := by rw [e1]; exact pk_mul _ _
      have hb : (r + 1) * (r + 1) ≤ 100 * 100 := Nat.mul_le_mul (by omega) (by omega)
      refine gp_go od_Rf_distance rfl ?_
      (repeat refine gp_gc [2] od_Rf_distance rfl rfl ?_)
      rw [e2, eD]
      by_cases b : D < (r + 1) * (r + 1)
      · refine gb_gt_t (nI_lt b (by omega)) ?_
        (repeat refine gp_gc [2] od_Rf_distance rfl rfl ?_)
        exact h r hs b
      · refine gb_gt_f (nI_nlt (by omega) (by omega)) ?_
        (repeat refine gp_gc [2] od_Rf_distance rfl rfl ?_)
        rw [e1]
        exact ih (r + 1) (by omega) (by omega)
  exact key 100 0 (by omega) (by omega)
abbrev gf_P (w : Nat → Nat → Int32) (y : Int32) (b : Nat) : Int64 := (w 130 b).toInt64 + (w 130 b).toInt64 * (w 131 b).toInt64 * y.toInt64 / 1000000
abbrev gf_thC (w : Nat → Nat → Int32) (y : Int32) (b : Nat) : Prop := w 134 b = -1 ∨ (¬ lg_cmp (gf_P w y b) (w 134 b).toInt64 < 0 ∧ lg_cmp (gf_P w y b) (w 135 b).toInt64 ≤ 0)
set_option maxRecDepth 100000 in
theorem sp_Rf_isThen {y : Int32} {n : Nat} (en : w 95 57 = nI n) (hn : n ≤ 14) (h1 : (∀ b, b < n → gf_thC w y b) → K (some (.int 1)) (gv w u q)) (h0 : ¬ (∀ b, b < n → gf_thC w y b) → K (some (.int 0)) (gv w u q)) : gp_Cal l G (d + 0) m_Rf_isThen [.ref 95, .int y] (gv w u q) K := by
  refine gp_enter od_Rf_isThen rfl ?_
  (repeat refine gp_gc [2] od_Rf_isThen rfl rfl ?_)
  have key : ∀ (r j : Nat) (x : Int32), j + r = n → x = nI j → (∀ t, t < j → gf_thC w y t) → gp_Go l G (d + 0) m_Rf_isThen K 2 [some (.ref 95), some (.int y), some (.int x), none, none] [] (gv w u q) 0 0 := by
    intro r
    induction r with
    | zero =>
      intro j x hj ex hall
      subst ex
      refine gp_go od_Rf_isThen rfl ?_
      (repeat refine gp_gc [2] od_Rf_isThen rfl rfl ?_)
      refine gb_ge_t (by rw [en]; exact nI_le (by omega) (by omega)) ?_
      (repeat refine gp_gc [2] od_Rf_isThen rfl rfl ?_)
      exact And.intro (Or.inr rfl) (h1 (fun t ht => hall t (by omega)))
    | succ r ih =>
      intro j x hj ex hall
      subst ex
      have ec : (nI j).toNatClampNeg = j := nI_clamp (by omega)
      have i1 : vp_in (nI j) 14 := vp_in_nI (by omega) (by decide)
      refine gp_go od_Rf_isThen rfl ?_
      (repeat refine gp_gc [2] od_Rf_isThen rfl rfl ?_)
      refine gb_ge_f (by rw [en]; exact nI_ge (by omega) (by omega)) ?_
      (repeat refine gp_gc [2] od_Rf_isThen rfl rfl ?_)
      refine And.intro i1 ?_
      (repeat refine gp_gc [2] od_Rf_isThen rfl rfl ?_)
      rw [ec]
      by_cases b0 : w 134 j = -1
      · refine gb_ne_f b0 ?_
        (repeat refine gp_gc [2] od_Rf_isThen rfl rfl ?_)
        exact ih (j + 1) _ (by omega) (gp_inc rfl) (lt_s hall (Or.inl b0))
      refine gb_ne_t b0 ?_
      (repeat refine gp_gc [2] od_Rf_isThen rfl rfl ?_)
      refine And.intro i1 ?_
      (repeat refine gp_gc [2] od_Rf_isThen rfl rfl ?_)
      refine And.intro i1 ?_
      (repeat refine gp_gc [2] od_Rf_isThen rfl rfl ?_)
      refine And.intro i1 ?_
      (repeat refine gp_gc [2] od_Rf_isThen rfl rfl ?_)
      refine And.intro (by decide) ?_
      (repeat refine gp_gc [2] od_Rf_isThen rfl rfl ?_)
      refine And.intro i1 ?_
      (repeat refine gp_gc [2] od_Rf_isThen rfl rfl ?_)
      rw [ec]
      by_cases b1 : lg_cmp (gf_P w y j) (w 134 j).toInt64 < 0
      · refine gb1_lt_t b1 ?_
        (repeat refine gp_gc [2] od_Rf_isThen rfl rfl ?_)
        exact And.intro (Or.inl rfl) (h0 (fun z => (z j (by omega)).elim b0 (fun z => z.1 b1)))
      refine gb1_lt_f b1 ?_
      (repeat refine gp_gc [2] od_Rf_isThen rfl rfl ?_)
      refine And.intro i1 ?_
      (repeat refine gp_gc [2] od_Rf_isThen rfl rfl ?_)
      rw [ec]
      by_cases b2 : lg_cmp (gf_P w y j) (w 135 j).toInt64 ≤ 0
      · refine gb1_le_t b2 ?_
        (repeat refine gp_gc [2] od_Rf_isThen rfl rfl ?_)
        refine gp_drop 3 ?_
        exact ih (j + 1) _ (by omega) (gp_inc rfl) (lt_s hall (Or.inr ⟨b1, b2⟩))
      · refine gb1_le_f b2 ?_
        (repeat refine gp_gc [2] od_Rf_isThen rfl rfl ?_)
        exact And.intro (Or.inl rfl) (h0 (fun z => (z j (by omega)).elim b0 (fun z => b2 z.2)))
  exact key n 0 _ (by omega) rfl (fun t ht => absurd ht (by omega))
/-- the years that fit: how many, the first, the last -/
def gf_yrS (C : Nat → Prop) (dc : ∀ y, Decidable (C y)) (y : Nat) (s : Int32 × Int32 × Int32) : Int32 × Int32 × Int32 := @ite _ (C y) (dc y) (s.1 + 1, (if s.2.1 = -1 then nI y else s.2.1), nI y) s
set_option maxRecDepth 100000 in
theorem sp_Rf_years {what : Int32} {n : Nat} (en : w 95 57 = nI n) (hn : n ≤ 14) (dc : ∀ y : Nat, Decidable (∀ b, b < n → gf_thC w (nI y) b)) (h0 : ¬ (0 ≤ what ∧ what ≤ 2) → K (some (.int (-1))) (gv w u q)) (h1 : 0 ≤ what ∧ what ≤ 2 → (∃ b, b < n ∧ ¬ w 134 b = -1) → ∀ s : Int32 × Int32 × Int32, s = gp_it (gf_yrS (fun y => ∀ b, b < n → gf_thC w (nI y) b) dc) 0 1000 (0, -1, -1) → K (some (.int (if what = 0 then s.2.1 else if what = 1 then s.2.2 else s.1))) (gv w u q)) (h2 : 0 ≤ what ∧ what ≤ 2 → ¬ (∃ b, b < n ∧ ¬ w 134 b = -1) → K (some (.int (if what = 0 then -1 else if what = 1 then -1 else 0))) (gv w u q)) : gp_Cal l G (d + 1) m_Rf_years [.ref 95, .int what] (gv w u q) K := by
  refine gp_enter od_Rf_years rfl ?_
  (repeat refine gp_gc [15, 60, 112] od_Rf_years rfl rfl ?_)
  refine sp_Rf_isIn (fun a1 b1 => ?_) (fun n1 => ?_)
  rotate_left
  · repeat refine gp_gc [15, 60, 112] od_Rf_years rfl rfl ?_
    first | refine And.intro (fun _ => ?_) (fun c => absurd rfl c) | refine And.intro (fun c => absurd rfl c) (fun _ => ?_)
    repeat refine gp_gc [15, 60, 112] od_Rf_years rfl rfl ?_
    exact h0 n1
  repeat refine gp_gc [15, 60, 112] od_Rf_years rfl rfl ?_
  first | refine And.intro (fun c => absurd c (by decide)) (fun _ => ?_) | refine And.intro (fun _ => ?_) (fun c => absurd c (by decide))
  repeat refine gp_gc [15, 60, 112] od_Rf_years rfl rfl ?_
  have fin : ∀ (some' x : Int32) (s : Int32 × Int32 × Int32), K (some (.int (if what = 0 then s.2.1 else if what = 1 then s.2.2 else s.1))) (gv w u q) → gp_Go l G (d + 1) m_Rf_years K 112 [some (.ref 95), some (.int what), some (.int some'), some (.int s.1), some (.int s.2.1), some (.int s.2.2), some (.int x)] [] (gv w u q) 0 0 := by
    intro some' x s h
    refine gp_go od_Rf_years rfl ?_
    (repeat refine gp_gc [15, 60, 112] od_Rf_years rfl rfl ?_)
    by_cases c : what = 0
    · rw [if_pos c] at h
      refine gb1_ne_f c ?_
      (repeat refine gp_gc [15, 60, 112] od_Rf_years rfl rfl ?_)
      exact h
    rw [if_neg c] at h
    refine gb1_ne_t c ?_
    (repeat refine gp_gc [15, 60, 112] od_Rf_years rfl rfl ?_)
    by_cases c2 : what = 1
    · rw [if_pos c2] at h
      refine gb_ne_f c2 ?_
      (repeat refine gp_gc [15, 60, 112] od_Rf_years rfl rfl ?_)
      exact h
    · rw [if_neg c2] at h
      refine gb_ne_t c2 ?_
      (repeat refine gp_gc [15, 60, 112] od_Rf_years rfl rfl ?_)
      exact h
  have none' : ¬ (∃ b, b < n ∧ ¬ w 134 b = -1) → gp_Go l G (d + 1) m_Rf_years K 60 [some (.ref 95), some (.int what), some (.int 0), some (.int 0), some (.int (-1)), some (.int (-1)), some (.int 0)] [] (gv w u q) 0 0 := by
    intro hno
    refine gp_go od_Rf_years rfl ?_
    (repeat refine gp_gc [15, 60, 112] od_Rf_years rfl rfl ?_)
    refine gb_gt_f (by decide) ?_
    (repeat refine gp_gc [15, 60, 112] od_Rf_years rfl rfl ?_)
    refine gb1_eq_t rfl ?_
    (repeat refine gp_gc [15, 60, 112] od_Rf_years rfl rfl ?_)
    exact fin 0 0 (0, -1, -1) (h2 ⟨a1, b1⟩ hno)
  have some' : (∃ b, b < n ∧ ¬ w 134 b = -1) → gp_Go l G (d + 1) m_Rf_years K 60 [some (.ref 95), some (.int what), some (.int 1), some (.int 0), some (.int (-1)), some (.int (-1)), some (.int 0)] [] (gv w u q) 0 0 := by
    intro hso
    refine gp_iter (P := fun j s => ∀ x, x = nI j → gp_Go l G (d + 1) m_Rf_years K 60 [some (.ref 95), some (.int what), some (.int 1), some (.int s.1), some (.int s.2.1), some (.int s.2.2), some (.int x)] [] (gv w u q) 0 0) (gf_yrS (fun y => ∀ b, b < n → gf_thC w (nI y) b) dc) 1000 ?_ 1000 0 (0, -1, -1) (by omega) ?_ 0 rfl
    · intro j s hj hp x ex
      subst ex
      have hp := hp _ (gp_inc rfl)
      unfold gf_yrS at hp
      refine gp_go od_Rf_years rfl ?_
      (repeat refine gp_gc [15, 60, 112] od_Rf_years rfl rfl ?_)
      refine gb_gt_f (nI_nlt (b := j) (a := 999) (by omega) (by decide)) ?_
      (repeat refine gp_gc [15, 60, 112] od_Rf_years rfl rfl ?_)
      refine gb1_eq_f (by decide) ?_
      (repeat refine gp_gc [15, 60, 112] od_Rf_years rfl rfl ?_)
      refine sp_Rf_isThen (d := d) en hn (fun z => ?_) (fun z => ?_)
      · rw [if_pos z] at hp
        (repeat refine gp_gc [15, 60, 112] od_Rf_years rfl rfl ?_)
        refine gb1_ne_t (by decide) ?_
        (repeat refine gp_gc [15, 60, 112] od_Rf_years rfl rfl ?_)
        by_cases c : s.2.1 = -1
        · rw [if_pos c] at hp
          refine gb_ne_f c ?_
          (repeat refine gp_gc [15, 60, 112] od_Rf_years rfl rfl ?_)
          exact hp
        · rw [if_neg c] at hp
          refine gb_ne_t c ?_
          (repeat refine gp_gc [15, 60, 112] od_Rf_years rfl rfl ?_)
          exact hp
      · rw [if_neg z] at hp
        (repeat refine gp_gc [15, 60, 112] od_Rf_years rfl rfl ?_)
        refine gb1_ne_f rfl ?_
        (repeat refine gp_gc [15, 60, 112] od_Rf_years rfl rfl ?_)
        exact hp
    · intro x ex
      subst ex
      refine gp_go od_Rf_years rfl ?_
      (repeat refine gp_gc [15, 60, 112] od_Rf_years rfl rfl ?_)
      refine gb_gt_t (by decide) ?_
      (repeat refine gp_gc [15, 60, 112] od_Rf_years rfl rfl ?_)
      exact fin 1 (nI 1000) _ (h1 ⟨a1, b1⟩ hso _ rfl)
  have key : ∀ (r j : Nat) (x sm : Int32), j + r = n → x = nI j → ((sm = 0 ∧ ¬ ∃ b, b < j ∧ ¬ w 134 b = -1) ∨ (sm = 1 ∧ ∃ b, b < j ∧ ¬ w 134 b = -1)) → gp_Go l G (d + 1) m_Rf_years K 15 [some (.ref 95), some (.int what), some (.int sm), some (.int x), none, none, none] [] (gv w u q) 0 0 := by
    intro r
    induction r with
    | zero =>
      intro j x sm hj ex hs
      subst ex
      have hj : j = n := by omega
      subst hj
      refine gp_go od_Rf_years rfl ?_
      (repeat refine gp_gc [15, 60, 112] od_Rf_years rfl rfl ?_)
      refine gb_ge_t (by rw [en]; exact Int32.le_refl _) ?_
      (repeat refine gp_gc [15, 60, 112] od_Rf_years rfl rfl ?_)
      rcases hs with ⟨rfl, hs⟩ | ⟨rfl, hs⟩
      · exact none' hs
      · exact some' hs
    | succ r ih =>
      intro j x sm hj ex hs
      subst ex
      have ec : (nI j).toNatClampNeg = j := nI_clamp (by omega)
      have i1 : vp_in (nI j) 14 := vp_in_nI (by omega) (by decide)
      refine gp_go od_Rf_years rfl ?_
      (repeat refine gp_gc [15, 60, 112] od_Rf_years rfl rfl ?_)
      refine gb_ge_f (by rw [en]; exact nI_ge (by omega) (by omega)) ?_
      (repeat refine gp_gc [15, 60, 112] od_Rf_years rfl rfl ?_)
      rcases hs with ⟨rfl, hs⟩ | ⟨rfl, hs⟩
      · refine gb1_ne_f rfl ?_
        (repeat refine gp_gc [15, 60, 112] od_Rf_years rfl rfl ?_)
        refine And.intro i1 ?_
        (repeat refine gp_gc [15, 60, 112] od_Rf_years rfl rfl ?_)
        rw [ec]
        by_cases b : w 134 j = -1
        · refine gb_eq_t b ?_
          (repeat refine gp_gc [15, 60, 112] od_Rf_years rfl rfl ?_)
          exact ih (j + 1) _ _ (by omega) (gp_inc rfl) (Or.inl ⟨rfl, fun ⟨t, t1, t2⟩ => by
            by_cases e : t = j
            · rw [e] at t2; exact t2 b
            · exact hs ⟨t, by omega, t2⟩⟩)
        · refine gb_eq_f b ?_
          (repeat refine gp_gc [15, 60, 112] od_Rf_years rfl rfl ?_)
          exact ih (j + 1) _ _ (by omega) (gp_inc rfl) (Or.inr ⟨rfl, j, by omega, b⟩)
      · refine gb1_ne_t (by decide) ?_
        (repeat refine gp_gc [15, 60, 112] od_Rf_years rfl rfl ?_)
        obtain ⟨t, t1, t2⟩ := hs
        exact ih (j + 1) _ _ (by omega) (gp_inc rfl) (Or.inr ⟨rfl, t, by omega, t2⟩)
  exact key n 0 _ _ (by omega) rfl (Or.inl ⟨rfl, fun ⟨t, t1, t2⟩ => absurd t1 (by omega)⟩)

end
