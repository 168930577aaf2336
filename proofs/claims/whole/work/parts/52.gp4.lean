section
variable {l : Launch} {G : gp_G} {d : Nat} {w : Nat → Nat → Int32} {u : Int64 × (Nat → Int64)} {q : Nat → Nat} {K : Option Value → gp_H → Prop}
/-! rows of bits -/
theorem ga_nar (v : Int32) {k : Nat} (hk : k < 32) : vp_nar .byte (((v >>> (nI k &&& 31)) &&& 1).toInt8.toInt32) = (v >>> (nI k &&& 31)) &&& 1 := by
  rw [pk_vb, gb_t v hk]
  by_cases g : gb v k = true
  · rw [if_pos g]; decide
  · rw [if_neg g]; decide
set_option maxRecDepth 100000 in
theorem sp_Br_append76 {v n : Int32} {t : Nat} (et : w 76 1 = nI t) (ht : t ≤ 400) (hz : n = 0 → K (some (.int 0)) (gv (gw w 76 1 0) u q)) (h0 : ¬ n = 0 → ¬ ((0 ≤ n ∧ n ≤ 32) ∧ ¬ 400 < w 76 1 + n) → K (some (.int (-1))) (gv w u q)) (h1 : ∀ N, n = nI N → 1 ≤ N → N ≤ 32 → t + N ≤ 400 → ∀ W, ga_R 77 76 1 t N (fun j => (v >>> (nI (N - 1 - j) &&& 31)) &&& 1) w W → K (some (.int (nI (t + N)))) (gv W u q)) : gp_Cal l G (d + 0) m_Br_append [.ref 76, .int v, .int n] (gv w u q) K := by
  refine gp_enter od_Br_append rfl ?_
  (repeat refine gp_gc [37] od_Br_append rfl rfl ?_)
  by_cases bz : n = 0
  · subst bz
    refine gb1_lt_f (by decide) ?_
    (repeat refine gp_gc [37] od_Br_append rfl rfl ?_)
    refine gb_gt_f (by decide) ?_
    (repeat refine gp_gc [37] od_Br_append rfl rfl ?_)
    refine gb_le_t (by rw [et, Int32.add_zero]; exact nI_le (b := 400) ht (by decide)) ?_
    (repeat refine gp_gc [37] od_Br_append rfl rfl ?_)
    refine gb1_ne_f rfl ?_
    (repeat refine gp_gc [37] od_Br_append rfl rfl ?_)
    refine gp_go od_Br_append rfl ?_
    (repeat refine gp_gc [37] od_Br_append rfl rfl ?_)
    refine gb1_lt_t (by decide) ?_
    (repeat refine gp_gc [37] od_Br_append rfl rfl ?_)
    exact hz rfl
  by_cases a1 : n < 0
  · refine gb1_lt_t a1 ?_
    (repeat refine gp_gc [37] od_Br_append rfl rfl ?_)
    exact h0 bz (fun z => Int32.not_lt.mpr z.1.1 a1)
  refine gb1_lt_f a1 ?_
  (repeat refine gp_gc [37] od_Br_append rfl rfl ?_)
  by_cases b1 : 32 < n
  · refine gb_gt_t b1 ?_
    (repeat refine gp_gc [37] od_Br_append rfl rfl ?_)
    exact h0 bz (fun z => Int32.not_lt.mpr z.1.2 b1)
  refine gb_gt_f b1 ?_
  (repeat refine gp_gc [37] od_Br_append rfl rfl ?_)
  by_cases b0 : 400 < w 76 1 + n
  · refine gb_le_f' b0 ?_
    (repeat refine gp_gc [37] od_Br_append rfl rfl ?_)
    exact h0 bz (fun z => z.2 b0)
  refine gb_le_t' b0 ?_
  (repeat refine gp_gc [37] od_Br_append rfl rfl ?_)
  obtain ⟨N, hN, eN⟩ := nI_of2 (n := 32) (M := 32) rfl a1 (Int32.not_lt.mp b1)
  have hN1 : 1 ≤ N := by
    rcases Nat.eq_zero_or_pos N with z | z
    · subst z; exact absurd eN bz
    · exact z
  have htN : t + N ≤ 400 := by
    rw [et, eN, nI_add] at b0
    exact Nat.not_lt.mp (fun z => b0 (nI_lt z (by omega)))
  have h1 := h1 N eN hN1 hN htN
  refine gb1_ne_t bz ?_
  (repeat refine gp_gc [37] od_Br_append rfl rfl ?_)
  have key : ∀ (k : Nat) (W : Nat → Nat → Int32) (x : Int32), k ≤ N → x = nI k - 1 → ga_R 77 76 1 t (N - k) (fun j => (v >>> (nI (N - 1 - j) &&& 31)) &&& 1) w W → gp_Go l G (d + 0) m_Br_append K 37 [some (.ref 76), some (.int v), some (.int n), some (.int x)] [] (gv W u q) 0 0 := by
    intro k
    induction k with
    | zero =>
      intro W x hk ex R
      subst ex
      refine gp_go od_Br_append rfl ?_
      (repeat refine gp_gc [37] od_Br_append rfl rfl ?_)
      refine gb1_lt_t (by decide) ?_
      (repeat refine gp_gc [37] od_Br_append rfl rfl ?_)
      have h2 := h1 W R
      rw [show t + N = t + (N - 0) from rfl, ← R.1] at h2
      exact h2
    | succ k ih =>
      intro W x hk ex R
      rw [nI_pred] at ex
      subst ex
      have ez : vp_nar .byte (((v >>> (nI k &&& 31)) &&& Int32.ofInt 1).toInt8.toInt32) = (v >>> (nI k &&& 31)) &&& 1 := ga_nar v (k := k) (by omega)
      refine gp_go od_Br_append rfl ?_
      (repeat refine gp_gc [37] od_Br_append rfl rfl ?_)
      refine gb1_lt_f (nI_pos (by omega)) ?_
      (repeat refine gp_gc [37] od_Br_append rfl rfl ?_)
      refine And.intro (by show vp_in (W 76 1) 400; rw [R.1]; exact vp_in_nI (by omega) (by decide)) ?_
      rw [ez]
      (repeat refine gp_gc [37] od_Br_append rfl rfl ?_)
      refine ih (ga_ap 77 76 1 ((v >>> (nI k &&& 31)) &&& 1) W) _ (by omega) (gp_m1 _) ?_
      have b := ga_Rs (x := (v >>> (nI k &&& 31)) &&& 1) (by decide) (by omega) R (by
        show _ = (v >>> (nI (N - 1 - (N - (k + 1))) &&& 31)) &&& 1
        rw [show N - 1 - (N - (k + 1)) = k by omega])
      rw [show N - (k + 1) + 1 = N - k by omega] at b
      exact b
  exact key N w _ (Nat.le_refl N) (by rw [eN]; rfl) (by rw [Nat.sub_self]; exact ga_R0 et)
set_option maxRecDepth 100000 in
theorem sp_Gp_bits {v n : Int32} {t : Nat} (et : w 76 1 = nI t) (ht : t ≤ 400) (hz : n = 0 → K (some (.int 0)) (gv (gw w 76 1 0) u q)) (h0 : ¬ n = 0 → ¬ ((0 ≤ n ∧ n ≤ 32) ∧ ¬ 400 < w 76 1 + n) → K (some (.int (-1))) (gv w u q)) (h1 : ∀ N, n = nI N → 1 ≤ N → N ≤ 32 → t + N ≤ 400 → ∀ W, ga_R 77 76 1 t N (fun j => (v >>> (nI (N - 1 - j) &&& 31)) &&& 1) w W → K (some (.int (nI (t + N)))) (gv W u q)) : gp_Cal l G (d + 1) m_Gp_bits [.ref 0, .int v, .int n] (gv w u q) K := by
  refine gp_enter od_Gp_bits rfl ?_
  (repeat refine gp_gc [] od_Gp_bits rfl rfl ?_)
  refine sp_Br_append76 (d := d) et ht (fun z => ?_) (fun z c => ?_) (fun N a b c e W R => ?_)
  · (repeat refine gp_gc [] od_Gp_bits rfl rfl ?_)
    exact hz z
  · (repeat refine gp_gc [] od_Gp_bits rfl rfl ?_)
    exact h0 z c
  · (repeat refine gp_gc [] od_Gp_bits rfl rfl ?_)
    exact h1 N a b c e W R
set_option maxRecDepth 100000 in
theorem sp_Br_append78 {v n : Int32} {t : Nat} (et : w 78 1 = nI t) (ht : t ≤ 400) (hz : n = 0 → K (some (.int 0)) (gv (gw w 78 1 0) u q)) (h0 : ¬ n = 0 → ¬ ((0 ≤ n ∧ n ≤ 32) ∧ ¬ 400 < w 78 1 + n) → K (some (.int (-1))) (gv w u q)) (h1 : ∀ N, n = nI N → 1 ≤ N → N ≤ 32 → t + N ≤ 400 → ∀ W, ga_R 79 78 1 t N (fun j => (v >>> (nI (N - 1 - j) &&& 31)) &&& 1) w W → K (some (.int (nI (t + N)))) (gv W u q)) : gp_Cal l G (d + 0) m_Br_append [.ref 78, .int v, .int n] (gv w u q) K := by
  refine gp_enter od_Br_append rfl ?_
  (repeat refine gp_gc [37] od_Br_append rfl rfl ?_)
  by_cases bz : n = 0
  · subst bz
    refine gb1_lt_f (by decide) ?_
    (repeat refine gp_gc [37] od_Br_append rfl rfl ?_)
    refine gb_gt_f (by decide) ?_
    (repeat refine gp_gc [37] od_Br_append rfl rfl ?_)
    refine gb_le_t (by rw [et, Int32.add_zero]; exact nI_le (b := 400) ht (by decide)) ?_
    (repeat refine gp_gc [37] od_Br_append rfl rfl ?_)
    refine gb1_ne_f rfl ?_
    (repeat refine gp_gc [37] od_Br_append rfl rfl ?_)
    refine gp_go od_Br_append rfl ?_
    (repeat refine gp_gc [37] od_Br_append rfl rfl ?_)
    refine gb1_lt_t (by decide) ?_
    (repeat refine gp_gc [37] od_Br_append rfl rfl ?_)
    exact hz rfl
  by_cases a1 : n < 0
  · refine gb1_lt_t a1 ?_
    (repeat refine gp_gc [37] od_Br_append rfl rfl ?_)
    exact h0 bz (fun z => Int32.not_lt.mpr z.1.1 a1)
  refine gb1_lt_f a1 ?_
  (repeat refine gp_gc [37] od_Br_append rfl rfl ?_)
  by_cases b1 : 32 < n
  · refine gb_gt_t b1 ?_
    (repeat refine gp_gc [37] od_Br_append rfl rfl ?_)
    exact h0 bz (fun z => Int32.not_lt.mpr z.1.2 b1)
  refine gb_gt_f b1 ?_
  (repeat refine gp_gc [37] od_Br_append rfl rfl ?_)
  by_cases b0 : 400 < w 78 1 + n
  · refine gb_le_f' b0 ?_
    (repeat refine gp_gc [37] od_Br_append rfl rfl ?_)
    exact h0 bz (fun z => z.2 b0)
  refine gb_le_t' b0 ?_
  (repeat refine gp_gc [37] od_Br_append rfl rfl ?_)
  obtain ⟨N, hN, eN⟩ := nI_of2 (n := 32) (M := 32) rfl a1 (Int32.not_lt.mp b1)
  have hN1 : 1 ≤ N := by
    rcases Nat.eq_zero_or_pos N with z | z
    · subst z; exact absurd eN bz
    · exact z
  have htN : t + N ≤ 400 := by
    rw [et, eN, nI_add] at b0
    exact Nat.not_lt.mp (fun z => b0 (nI_lt z (by omega)))
  have h1 := h1 N eN hN1 hN htN
  refine gb1_ne_t bz ?_
  (repeat refine gp_gc [37] od_Br_append rfl rfl ?_)
  have key : ∀ (k : Nat) (W : Nat → Nat → Int32) (x : Int32), k ≤ N → x = nI k - 1 → ga_R 79 78 1 t (N - k) (fun j => (v >>> (nI (N - 1 - j) &&& 31)) &&& 1) w W → gp_Go l G (d + 0) m_Br_append K 37 [some (.ref 78), some (.int v), some (.int n), some (.int x)] [] (gv W u q) 0 0 := by
    intro k
    induction k with
    | zero =>
      intro W x hk ex R
      subst ex
      refine gp_go od_Br_append rfl ?_
      (repeat refine gp_gc [37] od_Br_append rfl rfl ?_)
      refine gb1_lt_t (by decide) ?_
      (repeat refine gp_gc [37] od_Br_append rfl rfl ?_)
      have h2 := h1 W R
      rw [show t + N = t + (N - 0) from rfl, ← R.1] at h2
      exact h2
    | succ k ih =>
      intro W x hk ex R
      rw [nI_pred] at ex
      subst ex
      have ez : vp_nar .byte (((v >>> (nI k &&& 31)) &&& Int32.ofInt 1).toInt8.toInt32) = (v >>> (nI k &&& 31)) &&& 1 := ga_nar v (k := k) (by omega)
      refine gp_go od_Br_append rfl ?_
      (repeat refine gp_gc [37] od_Br_append rfl rfl ?_)
      refine gb1_lt_f (nI_pos (by omega)) ?_
      (repeat refine gp_gc [37] od_Br_append rfl rfl ?_)
      refine And.intro (by show vp_in (W 78 1) 400; rw [R.1]; exact vp_in_nI (by omega) (by decide)) ?_
      rw [ez]
      (repeat refine gp_gc [37] od_Br_append rfl rfl ?_)
      refine ih (ga_ap 79 78 1 ((v >>> (nI k &&& 31)) &&& 1) W) _ (by omega) (gp_m1 _) ?_
      have b := ga_Rs (x := (v >>> (nI k &&& 31)) &&& 1) (by decide) (by omega) R (by
        show _ = (v >>> (nI (N - 1 - (N - (k + 1))) &&& 31)) &&& 1
        rw [show N - 1 - (N - (k + 1)) = k by omega])
      rw [show N - (k + 1) + 1 = N - k by omega] at b
      exact b
  exact key N w _ (Nat.le_refl N) (by rw [eN]; rfl) (by rw [Nat.sub_self]; exact ga_R0 et)
set_option maxRecDepth 100000 in
theorem sp_Gp_grid {v n : Int32} {t : Nat} (et : w 78 1 = nI t) (ht : t ≤ 400) (hz : n = 0 → K (some (.int 0)) (gv (gw w 78 1 0) u q)) (h0 : ¬ n = 0 → ¬ ((0 ≤ n ∧ n ≤ 32) ∧ ¬ 400 < w 78 1 + n) → K (some (.int (-1))) (gv w u q)) (h1 : ∀ N, n = nI N → 1 ≤ N → N ≤ 32 → t + N ≤ 400 → ∀ W, ga_R 79 78 1 t N (fun j => (v >>> (nI (N - 1 - j) &&& 31)) &&& 1) w W → K (some (.int (nI (t + N)))) (gv W u q)) : gp_Cal l G (d + 1) m_Gp_grid [.ref 0, .int v, .int n] (gv w u q) K := by
  refine gp_enter od_Gp_grid rfl ?_
  (repeat refine gp_gc [] od_Gp_grid rfl rfl ?_)
  refine sp_Br_append78 (d := d) et ht (fun z => ?_) (fun z c => ?_) (fun N a b c e W R => ?_)
  · (repeat refine gp_gc [] od_Gp_grid rfl rfl ?_)
    exact hz z
  · (repeat refine gp_gc [] od_Gp_grid rfl rfl ?_)
    exact h0 z c
  · (repeat refine gp_gc [] od_Gp_grid rfl rfl ?_)
    exact h1 N a b c e W R

end
