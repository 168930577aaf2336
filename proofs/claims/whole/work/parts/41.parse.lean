section
variable {l : Launch} {G : gp_G} {d : Nat} {w : Nat → Nat → Int32} {u : Int64 × (Nat → Int64)} {q : Nat → Nat} {K : Option Value → gp_H → Prop}
/-! ===== the tokens in their order ===== -/
def gx_p (tp : Nat → Nat) (n : Nat) : Nat → Nat
  | 0 => 0
  | j + 1 => gx_e tp n (gx_p tp n j)
def gx_kd (tp : Nat → Nat) (n j : Nat) : Nat := gx_k tp n (gx_p tp n j)
def gx_nu (tp : Nat → Nat) (n j : Nat) : Nat := gx_v tp n (gx_p tp n j)
def gx_sp (tp : Nat → Nat) (n j : Nat) : Nat := gx_s tp n (gx_p tp n j)
theorem gx_s_b {tp : Nat → Nat} {n p : Nat} (h : p ≤ n) : p ≤ gx_s tp n p ∧ gx_s tp n p ≤ n := by
  have := gx_run_b (C := gx_bl) (tp := tp) (n - p) p
  unfold gx_s
  omega
theorem gx_e_b {tp : Nat → Nat} {n p : Nat} (h : p ≤ n) : p ≤ gx_e tp n p ∧ gx_e tp n p ≤ n ∧ (gx_s tp n p < n → gx_s tp n p < gx_e tp n p) := by
  have hs := gx_s_b (tp := tp) h
  unfold gx_e
  by_cases c : n ≤ gx_s tp n p
  · rw [if_pos c]; omega
  rw [if_neg c]
  have hstep : ∀ C : Nat → Bool, C (tp (gx_s tp n p)) = true → gx_s tp n p < gx_run C tp (n - gx_s tp n p) (gx_s tp n p) ∧ gx_run C tp (n - gx_s tp n p) (gx_s tp n p) ≤ n := by
    intro C hC
    obtain ⟨r, hr⟩ : ∃ r, n - gx_s tp n p = r + 1 := ⟨n - gx_s tp n p - 1, by omega⟩
    rw [hr]
    have e : gx_run C tp (r + 1) (gx_s tp n p) = gx_run C tp r (gx_s tp n p + 1) := if_pos hC
    have := gx_run_b (C := C) (tp := tp) r (gx_s tp n p + 1)
    rw [e]
    omega
  by_cases c1 : gx_le (tp (gx_s tp n p)) = true
  · rw [if_pos c1]
    have := hstep gx_le c1
    omega
  rw [if_neg c1]
  by_cases c2 : gx_di (tp (gx_s tp n p)) = true
  · rw [if_pos c2]
    have := hstep gx_di c2
    omega
  rw [if_neg c2]
  omega
theorem gx_p_n {tp : Nat → Nat} {n : Nat} : ∀ j, gx_p tp n j ≤ n
  | 0 => Nat.zero_le n
  | j + 1 => (gx_e_b (gx_p_n j)).2.1
theorem gx_k_b (tp : Nat → Nat) (n p : Nat) : gx_k tp n p < 63 ∧ (gx_k tp n p = 31 ↔ n ≤ gx_s tp n p) := by
  unfold gx_k
  by_cases c : n ≤ gx_s tp n p
  · rw [if_pos c]; exact ⟨by decide, fun _ => c, fun _ => rfl⟩
  rw [if_neg c]
  by_cases c1 : gx_le (tp (gx_s tp n p)) = true
  · rw [if_pos c1]
    have := gx_kw_b (gx_sub tp (gx_s tp n p) (gx_e tp n p))
    exact ⟨by omega, fun z => by omega, fun z => absurd z c⟩
  rw [if_neg c1]
  by_cases c2 : gx_di (tp (gx_s tp n p)) = true
  · rw [if_pos c2]
    by_cases c3 : gx_e tp n p - gx_s tp n p < 5
    · rw [if_pos c3]; exact ⟨by decide, fun z => by omega, fun z => absurd z c⟩
    · rw [if_neg c3]; exact ⟨by decide, fun z => by omega, fun z => absurd z c⟩
  rw [if_neg c2]
  by_cases c3 : gx_sg (tp (gx_s tp n p)) = true
  · rw [if_pos c3]
    unfold gx_sg at c3
    have := of_decide_eq_true c3
    exact ⟨by omega, fun z => by omega, fun z => absurd z c⟩
  · rw [if_neg c3]; exact ⟨by decide, fun z => by omega, fun z => absurd z c⟩
theorem gx_kd_end {tp : Nat → Nat} {n j : Nat} (h : gx_kd tp n j = 31) : gx_kd tp n (j + 1) = 31 := by
  have h1 := (gx_k_b tp n (gx_p tp n j)).2.mp h
  have e : gx_p tp n (j + 1) = n := by
    show gx_e tp n (gx_p tp n j) = n
    exact if_pos h1
  refine (gx_k_b tp n (gx_p tp n (j + 1))).2.mpr ?_
  rw [e]
  exact (gx_s_b (Nat.le_refl n)).1
theorem gx_j_p {tp : Nat → Nat} {n : Nat} : ∀ j, gx_kd tp n j ≠ 31 → j ≤ gx_p tp n j
  | 0, _ => Nat.zero_le _
  | j + 1, h => by
    have h0 : gx_kd tp n j ≠ 31 := fun z => h (gx_kd_end z)
    have h1 := gx_j_p j h0
    have h2 : ¬ n ≤ gx_s tp n (gx_p tp n j) := fun z => h0 ((gx_k_b tp n (gx_p tp n j)).2.mpr z)
    have h3 := (gx_e_b (gx_p_n j)).2.2 (Nat.not_le.mp h2)
    have h4 := (gx_s_b (tp := tp) (n := n) (p := gx_p tp n j) (gx_p_n j)).1
    show j + 1 ≤ gx_e tp n (gx_p tp n j)
    omega
theorem gx_j_n {tp : Nat → Nat} {n j : Nat} (h : gx_kd tp n j ≠ 31) : j < n := by
  have h1 := gx_j_p j h
  have h2 : ¬ n ≤ gx_s tp n (gx_p tp n j) := fun z => h ((gx_k_b tp n (gx_p tp n j)).2.mpr z)
  have h4 := (gx_s_b (tp := tp) (n := n) (p := gx_p tp n j) (gx_p_n j)).1
  omega
theorem gx_nm_b {tp : Nat → Nat} : ∀ (r p a m : Nat), (∀ k, k < r → gx_di (tp (p + k)) = true) → a < 10 ^ m → gx_nm tp r p a < 10 ^ (m + r)
  | 0, p, a, m, _, h => h
  | r + 1, p, a, m, hd, h => by
    unfold gx_nm
    have h0 := hd 0 (by omega)
    have h0 : 48 ≤ tp p ∧ tp p ≤ 57 := of_decide_eq_true h0
    have := gx_nm_b r (p + 1) (10 * a + (tp p - 48)) (m + 1) (fun k hk => by rw [show p + 1 + k = p + (k + 1) by omega]; exact hd (k + 1) (by omega)) (by rw [Nat.pow_succ]; omega)
    rw [show m + (r + 1) = m + 1 + r by omega]
    exact this
theorem gx_run_all {C : Nat → Bool} {tp : Nat → Nat} : ∀ (r p k : Nat), p + k < gx_run C tp r p → C (tp (p + k)) = true
  | 0, p, k, h => by unfold gx_run at h; omega
  | r + 1, p, k, h => by
    unfold gx_run at h
    by_cases c : C (tp p) = true
    · rw [if_pos c] at h
      cases k with
      | zero => exact c
      | succ k => rw [show p + (k + 1) = p + 1 + k by omega]; exact gx_run_all r (p + 1) k (by omega)
    · rw [if_neg c] at h
      omega
theorem gx_nu_b {tp : Nat → Nat} {n j : Nat} (h : gx_kd tp n j = 30) : gx_nu tp n j < 10000 := by
  unfold gx_kd gx_k at h
  by_cases c : n ≤ gx_s tp n (gx_p tp n j)
  · rw [if_pos c] at h; exact absurd h (by decide)
  rw [if_neg c] at h
  by_cases c1 : gx_le (tp (gx_s tp n (gx_p tp n j))) = true
  · rw [if_pos c1] at h
    have := gx_kw_b (gx_sub tp (gx_s tp n (gx_p tp n j)) (gx_e tp n (gx_p tp n j)))
    omega
  rw [if_neg c1] at h
  by_cases c2 : gx_di (tp (gx_s tp n (gx_p tp n j))) = true
  · rw [if_pos c2] at h
    by_cases c3 : gx_e tp n (gx_p tp n j) - gx_s tp n (gx_p tp n j) < 5
    · have e1 : gx_e tp n (gx_p tp n j) = gx_run gx_di tp (n - gx_s tp n (gx_p tp n j)) (gx_s tp n (gx_p tp n j)) := by
        unfold gx_e
        rw [if_neg c, if_neg c1, if_pos c2]
      have := gx_nm_b (gx_e tp n (gx_p tp n j) - gx_s tp n (gx_p tp n j)) (gx_s tp n (gx_p tp n j)) 0 0 (fun k hk => gx_run_all (n - gx_s tp n (gx_p tp n j)) _ k (by rw [← e1]; omega)) (by decide)
      rw [Nat.zero_add] at this
      refine Nat.lt_of_lt_of_le this ?_
      exact Nat.pow_le_pow_right (n := 10) (by decide) (show gx_e tp n (gx_p tp n j) - gx_s tp n (gx_p tp n j) ≤ 4 by omega)
    · rw [if_neg c3] at h; exact absurd h (by decide)
  rw [if_neg c2] at h
  by_cases c3 : gx_sg (tp (gx_s tp n (gx_p tp n j))) = true
  · rw [if_pos c3] at h
    rw [h] at c3
    exact absurd c3 (by decide)
  · rw [if_neg c3] at h; exact absurd h (by decide)
theorem gx_rt_inj {a b : Nat} (h : gx_rt a = gx_rt b) : a = b := by
  unfold gx_rt at h
  repeat' split at h
  all_goals omega
/-! ===== texts ===== -/
abbrev gy : Type := (Nat × Nat) ⊕ (Nat × gf_L)
def gy_unit (kd nm : Nat → Nat) (j : Nat) : gy := if kd j = 30 then .inr (j + 1, [(0, nI (nm j))]) else if 9 ≤ kd j ∧ kd j ≤ 21 then .inr (j + 1, [(kd j - 8, 0)]) else .inl (1, j)
def gy_T (kd nm : Nat → Nat) : Nat → Nat → gf_L → gy
  | 0, j, L => .inr (j, L)
  | f + 1, j, L => if kd j = 42 then (match gy_unit kd nm (j + 1) with
      | .inl e => .inl e
      | .inr (j', U) => gy_T kd nm f j' (L ++ U ++ [(16, 0)]))
    else if kd j = 47 then (if kd (j + 1) = 30 then (if nm (j + 1) = 0 then .inl (2, j + 1) else gy_T kd nm f (j + 2) (L ++ [(17, nI (nm (j + 1)))])) else .inl (1, j + 1))
    else .inr (j, L)
def gy_P (kd nm : Nat → Nat) (j : Nat) : gy := match gy_unit kd nm j with
  | .inl e => .inl e
  | .inr (j', U) => gy_T kd nm (600 - j') j' U
def gy_EL (kd nm : Nat → Nat) : Nat → Nat → gf_L → gy
  | 0, j, L => .inr (j, L)
  | f + 1, j, L => if kd j = 43 ∨ kd j = 45 then (match gy_P kd nm (j + 1) with
      | .inl e => .inl e
      | .inr (j', U) => gy_EL kd nm f j' (L ++ U ++ [(if kd j = 43 then 14 else 15, 0)]))
    else .inr (j, L)
def gy_E (kd nm : Nat → Nat) (j : Nat) : gy := match gy_P kd nm j with
  | .inl e => .inl e
  | .inr (j', U) => gy_EL kd nm (600 - j') j' U
def gy_cmp (kd nm : Nat → Nat) (j : Nat) : gy := match gy_E kd nm j with
  | .inl e => .inl e
  | .inr (j1, U) => if kd j1 = 60 ∨ kd j1 = 61 ∨ kd j1 = 62 then (match gy_E kd nm (j1 + 1) with
      | .inl e => .inl e
      | .inr (j2, V) => .inr (j2, U ++ V ++ [(kd j1 - 42, 0)]))
    else .inl (1, j1)
def gy_L (kd : Nat → Nat) (sub : Nat → gy) (k op : Nat) : Nat → Nat → gf_L → gy
  | 0, j, L => .inr (j, L)
  | f + 1, j, L => if kd j = k then (match sub (j + 1) with
      | .inl e => .inl e
      | .inr (j', U) => gy_L kd sub k op f j' (L ++ U ++ [(op, 0)]))
    else .inr (j, L)
def gy_ev (kd : Nat → Nat) (one : Nat → gy) (j : Nat) : gy := match one j with
  | .inl e => .inl e
  | .inr (j', U) => gy_L kd one 7 22 (600 - j') j' U
def gy_an (kd : Nat → Nat) (one : Nat → gy) (j : Nat) : gy := match gy_ev kd one j with
  | .inl e => .inl e
  | .inr (j', U) => gy_L kd (gy_ev kd one) 6 23 (600 - j') j' U
def gy_one (kd nm : Nat → Nat) : Nat → Nat → gy
  | 0, j => if kd j = 8 ∨ kd j = 40 then .inl (3, j) else gy_cmp kd nm j
  | h + 1, j => if kd j = 8 then (match gy_one kd nm h (j + 1) with
      | .inl e => .inl e
      | .inr (j', U) => .inr (j', U ++ [(21, 0)]))
    else if kd j = 40 then (match gy_an kd (gy_one kd nm h) (j + 1) with
      | .inl e => .inl e
      | .inr (j', U) => if kd j' = 41 then .inr (j' + 1, U) else .inl (1, j'))
    else gy_cmp kd nm j
/-- a piece that is read: it ends behind where it began, and is no longer than its tokens -/
def gy_good (kd : Nat → Nat) (r : gy) (j : Nat) (c : Nat) : Prop := ∀ j' L, r = .inr (j', L) → j < j' ∧ c + j ≤ c + j' ∧ L.length + j ≤ c + j' ∧ kd (j' - 1) ≠ 31

end
