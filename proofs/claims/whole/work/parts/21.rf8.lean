section
variable {l : Launch} {G : gp_G} {d : Nat} {w : Nat → Nat → Int32} {u : Int64 × (Nat → Int64)} {q : Nat → Nat} {K : Option Value → gp_H → Prop}
/-! ===== the reference's methods: bits and grids ===== -/
def gf_bi (v : Int32) (a f : Nat) : Nat → (Nat → Nat → Int32) → (Nat → Nat → Int32)
  | 0, W => W
  | k + 1, W => gf_bi v a f k (gw (gw W a (W 95 f).toNatClampNeg ((v >>> (nI k &&& 31)) &&& 1)) 95 f (W 95 f + 1))
theorem gp_m1 (x : Int32) : x + Int32.ofInt (-1) = x - 1 := by rw [Int32.sub_eq_add_neg]; rfl
set_option maxRecDepth 100000 in
theorem sp_Rf_bits {v n : Int32} {t : Nat} (et : w 95 50 = nI t) (ht : t ≤ 400) (hz : n = 0 → K (some (.int 0)) (gv (gw w 95 50 0) u q)) (h0 : ¬ n = 0 → ¬ ((0 ≤ n ∧ n ≤ 32) ∧ ¬ 400 < w 95 50 + n) → K (some (.int (-1))) (gv w u q)) (h1 : ∀ N, n = nI N → 1 ≤ N → N ≤ 32 → t + N ≤ 400 → K (some (.int (gf_bi v 126 50 N w 95 50))) (gv (gf_bi v 126 50 N w) u q)) : gp_Cal l G (d + 1) m_Rf_bits [.ref 95, .int v, .int n] (gv w u q) K := by
  refine gp_enter od_Rf_bits rfl ?_
  (repeat refine gp_gc [37] od_Rf_bits rfl rfl ?_)
  by_cases bz : n = 0
  · subst bz
    refine gb1_ne_f rfl ?_
    (repeat refine gp_gc [37] od_Rf_bits rfl rfl ?_)
    refine sp_Rf_isIn (fun a1 b1 => ?_) (fun n1 => ?_)
    rotate_left
    · repeat refine gp_gc [37] od_Rf_bits rfl rfl ?_
      first | refine And.intro (fun _ => ?_) (fun c => absurd rfl c) | refine And.intro (fun c => absurd rfl c) (fun _ => ?_)
      repeat refine gp_gc [37] od_Rf_bits rfl rfl ?_
      exact absurd ⟨by decide, by decide⟩ n1
    repeat refine gp_gc [37] od_Rf_bits rfl rfl ?_
    first | refine And.intro (fun c => absurd c (by decide)) (fun _ => ?_) | refine And.intro (fun _ => ?_) (fun c => absurd c (by decide))
    repeat refine gp_gc [37] od_Rf_bits rfl rfl ?_
    refine gb_le_t (by decide) ?_
    (repeat refine gp_gc [37] od_Rf_bits rfl rfl ?_)
    refine gp_go od_Rf_bits rfl ?_
    (repeat refine gp_gc [37] od_Rf_bits rfl rfl ?_)
    refine gb1_lt_t (by decide) ?_
    (repeat refine gp_gc [37] od_Rf_bits rfl rfl ?_)
    exact hz rfl
  refine gb1_ne_t bz ?_
  (repeat refine gp_gc [37] od_Rf_bits rfl rfl ?_)
  refine sp_Rf_isIn (fun a1 b1 => ?_) (fun n1 => ?_)
  rotate_left
  · repeat refine gp_gc [37] od_Rf_bits rfl rfl ?_
    first | refine And.intro (fun _ => ?_) (fun c => absurd rfl c) | refine And.intro (fun c => absurd rfl c) (fun _ => ?_)
    repeat refine gp_gc [37] od_Rf_bits rfl rfl ?_
    exact h0 bz (fun z => n1 z.1)
  repeat refine gp_gc [37] od_Rf_bits rfl rfl ?_
  first | refine And.intro (fun c => absurd c (by decide)) (fun _ => ?_) | refine And.intro (fun _ => ?_) (fun c => absurd c (by decide))
  repeat refine gp_gc [37] od_Rf_bits rfl rfl ?_
  by_cases b0 : 400 < w 95 50 + n
  · refine gb_le_f' b0 ?_
    (repeat refine gp_gc [37] od_Rf_bits rfl rfl ?_)
    exact h0 bz (fun z => z.2 b0)
  refine gb_le_t' b0 ?_
  (repeat refine gp_gc [37] od_Rf_bits rfl rfl ?_)
  obtain ⟨N, hN, eN⟩ := nI_of2 (n := 32) (M := 32) rfl (Int32.not_lt.mpr a1) b1
  have hN1 : 1 ≤ N := by
    rcases Nat.eq_zero_or_pos N with z | z
    · subst z; exact absurd eN bz
    · exact z
  have htN : t + N ≤ 400 := by
    rw [et, eN, nI_add] at b0
    exact Nat.not_lt.mp (fun z => b0 (nI_lt z (by omega)))
  have h1 := h1 N eN hN1 hN htN
  have key : ∀ (k : Nat) (W : Nat → Nat → Int32) (x : Int32), k ≤ N → x = nI k - 1 → W 95 50 = nI (t + (N - k)) → K (some (.int (gf_bi v 126 50 k W 95 50))) (gv (gf_bi v 126 50 k W) u q) → gp_Go l G (d + 1) m_Rf_bits K 37 [some (.ref 95), some (.int v), some (.int n), some (.int x)] [] (gv W u q) 0 0 := by
    intro k
    induction k with
    | zero =>
      intro W x hk ex hW h
      subst ex
      refine gp_go od_Rf_bits rfl ?_
      (repeat refine gp_gc [37] od_Rf_bits rfl rfl ?_)
      refine gb1_lt_t (by decide) ?_
      (repeat refine gp_gc [37] od_Rf_bits rfl rfl ?_)
      exact h
    | succ k ih =>
      intro W x hk ex hW h
      rw [nI_pred] at ex
      subst ex
      refine gp_go od_Rf_bits rfl ?_
      (repeat refine gp_gc [37] od_Rf_bits rfl rfl ?_)
      refine gb1_lt_f (nI_pos (by omega)) ?_
      (repeat refine gp_gc [37] od_Rf_bits rfl rfl ?_)
      refine And.intro (by rw [hW]; exact vp_in_nI (by omega) (by decide)) ?_
      (repeat refine gp_gc [37] od_Rf_bits rfl rfl ?_)
      refine ih (gw (gw W 126 (W 95 50).toNatClampNeg ((v >>> (nI k &&& 31)) &&& 1)) 95 50 (W 95 50 + 1)) _ (by omega) (gp_m1 _) ?_ h
      show W 95 50 + 1 = _
      rw [hW, nI_1]
      congr 1
      omega
  exact key N w _ (Nat.le_refl N) (by rw [eN]; rfl) (by rw [et, Nat.sub_self]; rfl) h1
set_option maxRecDepth 100000 in
theorem sp_Rf_grid {v n : Int32} {t : Nat} (et : w 95 51 = nI t) (ht : t ≤ 400) (hz : n = 0 → K (some (.int 0)) (gv (gw w 95 51 0) u q)) (h0 : ¬ n = 0 → ¬ ((0 ≤ n ∧ n ≤ 32) ∧ ¬ 400 < w 95 51 + n) → K (some (.int (-1))) (gv w u q)) (h1 : ∀ N, n = nI N → 1 ≤ N → N ≤ 32 → t + N ≤ 400 → K (some (.int (gf_bi v 127 51 N w 95 51))) (gv (gf_bi v 127 51 N w) u q)) : gp_Cal l G (d + 1) m_Rf_grid [.ref 95, .int v, .int n] (gv w u q) K := by
  refine gp_enter od_Rf_grid rfl ?_
  (repeat refine gp_gc [37] od_Rf_grid rfl rfl ?_)
  by_cases bz : n = 0
  · subst bz
    refine gb1_ne_f rfl ?_
    (repeat refine gp_gc [37] od_Rf_grid rfl rfl ?_)
    refine sp_Rf_isIn (fun a1 b1 => ?_) (fun n1 => ?_)
    rotate_left
    · repeat refine gp_gc [37] od_Rf_grid rfl rfl ?_
      first | refine And.intro (fun _ => ?_) (fun c => absurd rfl c) | refine And.intro (fun c => absurd rfl c) (fun _ => ?_)
      repeat refine gp_gc [37] od_Rf_grid rfl rfl ?_
      exact absurd ⟨by decide, by decide⟩ n1
    repeat refine gp_gc [37] od_Rf_grid rfl rfl ?_
    first | refine And.intro (fun c => absurd c (by decide)) (fun _ => ?_) | refine And.intro (fun _ => ?_) (fun c => absurd c (by decide))
    repeat refine gp_gc [37] od_Rf_grid rfl rfl ?_
    refine gb_le_t (by decide) ?_
    (repeat refine gp_gc [37] od_Rf_grid rfl rfl ?_)
    refine gp_go od_Rf_grid rfl ?_
    (repeat refine gp_gc [37] od_Rf_grid rfl rfl ?_)
    refine gb1_lt_t (by decide) ?_
    (repeat refine gp_gc [37] od_Rf_grid rfl rfl ?_)
    exact hz rfl
  refine gb1_ne_t bz ?_
  (repeat refine gp_gc [37] od_Rf_grid rfl rfl ?_)
  refine sp_Rf_isIn (fun a1 b1 => ?_) (fun n1 => ?_)
  rotate_left
  · repeat refine gp_gc [37] od_Rf_grid rfl rfl ?_
    first | refine And.intro (fun _ => ?_) (fun c => absurd rfl c) | refine And.intro (fun c => absurd rfl c) (fun _ => ?_)
    repeat refine gp_gc [37] od_Rf_grid rfl rfl ?_
    exact h0 bz (fun z => n1 z.1)
  repeat refine gp_gc [37] od_Rf_grid rfl rfl ?_
  first | refine And.intro (fun c => absurd c (by decide)) (fun _ => ?_) | refine And.intro (fun _ => ?_) (fun c => absurd c (by decide))
  repeat refine gp_gc [37] od_Rf_grid rfl rfl ?_
  by_cases b0 : 400 < w 95 51 + n
  · refine gb_le_f' b0 ?_
    (repeat refine gp_gc [37] od_Rf_grid rfl rfl ?_)
    exact h0 bz (fun z => z.2 b0)
  refine gb_le_t' b0 ?_
  (repeat refine gp_gc [37] od_Rf_grid rfl rfl ?_)
  obtain ⟨N, hN, eN⟩ := nI_of2 (n := 32) (M := 32) rfl (Int32.not_lt.mpr a1) b1
  have hN1 : 1 ≤ N := by
    rcases Nat.eq_zero_or_pos N with z | z
    · subst z; exact absurd eN bz
    · exact z
  have htN : t + N ≤ 400 := by
    rw [et, eN, nI_add] at b0
    exact Nat.not_lt.mp (fun z => b0 (nI_lt z (by omega)))
  have h1 := h1 N eN hN1 hN htN
  have key : ∀ (k : Nat) (W : Nat → Nat → Int32) (x : Int32), k ≤ N → x = nI k - 1 → W 95 51 = nI (t + (N - k)) → K (some (.int (gf_bi v 127 51 k W 95 51))) (gv (gf_bi v 127 51 k W) u q) → gp_Go l G (d + 1) m_Rf_grid K 37 [some (.ref 95), some (.int v), some (.int n), some (.int x)] [] (gv W u q) 0 0 := by
    intro k
    induction k with
    | zero =>
      intro W x hk ex hW h
      subst ex
      refine gp_go od_Rf_grid rfl ?_
      (repeat refine gp_gc [37] od_Rf_grid rfl rfl ?_)
      refine gb1_lt_t (by decide) ?_
      (repeat refine gp_gc [37] od_Rf_grid rfl rfl ?_)
      exact h
    | succ k ih =>
      intro W x hk ex hW h
      rw [nI_pred] at ex
      subst ex
      refine gp_go od_Rf_grid rfl ?_
      (repeat refine gp_gc [37] od_Rf_grid rfl rfl ?_)
      refine gb1_lt_f (nI_pos (by omega)) ?_
      (repeat refine gp_gc [37] od_Rf_grid rfl rfl ?_)
      refine And.intro (by rw [hW]; exact vp_in_nI (by omega) (by decide)) ?_
      (repeat refine gp_gc [37] od_Rf_grid rfl rfl ?_)
      refine ih (gw (gw W 127 (W 95 51).toNatClampNeg ((v >>> (nI k &&& 31)) &&& 1)) 95 51 (W 95 51 + 1)) _ (by omega) (gp_m1 _) ?_ h
      show W 95 51 + 1 = _
      rw [hW, nI_1]
      congr 1
      omega
  exact key N w _ (Nat.le_refl N) (by rw [eN]; rfl) (by rw [et, Nat.sub_self]; rfl) h1
set_option maxRecDepth 100000 in
theorem sp_Rf_isWidth {x : Int32} (h1 : 1 < x → x < w 95 50 → w 95 50 - w 95 50 / x * x = 0 → K (some (.int 1)) (gv w u q)) (h0 : ¬ (1 < x ∧ x < w 95 50 ∧ w 95 50 - w 95 50 / x * x = 0) → K (some (.int 0)) (gv w u q)) : gp_Cal l G (d + 0) m_Rf_isWidth [.ref 95, .int x] (gv w u q) K := by
  refine gp_enter od_Rf_isWidth rfl ?_
  (repeat refine gp_gc [] od_Rf_isWidth rfl rfl ?_)
  by_cases b1 : 1 < x
  rotate_left
  · refine gb_le_t' b1 ?_
    (repeat refine gp_gc [] od_Rf_isWidth rfl rfl ?_)
    exact And.intro (Or.inl rfl) (h0 (fun z => b1 z.1))
  refine gb_le_f' b1 ?_
  (repeat refine gp_gc [] od_Rf_isWidth rfl rfl ?_)
  by_cases b2 : x < w 95 50
  rotate_left
  · refine gb_ge_t' b2 ?_
    (repeat refine gp_gc [] od_Rf_isWidth rfl rfl ?_)
    exact And.intro (Or.inl rfl) (h0 (fun z => b2 z.2.1))
  refine gb_ge_f' b2 ?_
  (repeat refine gp_gc [] od_Rf_isWidth rfl rfl ?_)
  refine And.intro (fun e => by subst e; exact absurd b1 (by decide)) ?_
  (repeat refine gp_gc [] od_Rf_isWidth rfl rfl ?_)
  by_cases b3 : w 95 50 - w 95 50 / x * x = 0
  · refine gb1_ne_f b3 ?_
    (repeat refine gp_gc [] od_Rf_isWidth rfl rfl ?_)
    exact And.intro (Or.inr rfl) (h1 b1 b2 b3)
  · refine gb1_ne_t b3 ?_
    (repeat refine gp_gc [] od_Rf_isWidth rfl rfl ?_)
    exact And.intro (Or.inl rfl) (h0 (fun z => b3 z.2.2))
def gf_laid (w : Nat → Nat → Int32) (k wd y x : Int32) : Int32 := w 126 (wd * y + (if w 109 k.toNatClampNeg = 0 then x else wd - 1 - x)).toNatClampNeg
set_option maxRecDepth 100000 in
theorem sp_Rf_laidAt {k wd y x : Int32} (i0 : vp_in k 7) (i1 : vp_in (wd * y + (if w 109 k.toNatClampNeg = 0 then x else wd - 1 - x)) 400) (h : K (some (.int (gf_laid w k wd y x))) (gv w u q)) : gp_Cal l G (d + 0) m_Rf_laidAt [.ref 95, .int k, .int wd, .int y, .int x] (gv w u q) K := by
  refine gp_enter od_Rf_laidAt rfl ?_
  unfold gf_laid at h
  (repeat refine gp_gc [] od_Rf_laidAt rfl rfl ?_)
  refine And.intro i0 ?_
  (repeat refine gp_gc [] od_Rf_laidAt rfl rfl ?_)
  by_cases b : w 109 k.toNatClampNeg = 0
  · rw [if_pos b] at i1 h
    refine gb1_ne_f b ?_
    (repeat refine gp_gc [] od_Rf_laidAt rfl rfl ?_)
    refine And.intro i1 ?_
    (repeat refine gp_gc [] od_Rf_laidAt rfl rfl ?_)
    exact h
  · rw [if_neg b] at i1 h
    refine gb1_ne_t b ?_
    (repeat refine gp_gc [] od_Rf_laidAt rfl rfl ?_)
    refine And.intro i1 ?_
    (repeat refine gp_gc [] od_Rf_laidAt rfl rfl ?_)
    exact h
/-- the places of a grid of a columns -/
theorem gf_ix {wd y x : Int32} {a b i j : Nat} {c : Prop} {inst : Decidable c} (ew : wd = nI a) (ey : y = nI i) (ex : x = nI j) (hi : i < b) (hj : j < a) (hab : a * b ≤ 400) : vp_in (wd * y + (@ite _ c inst x (wd - 1 - x))) 400 := by
  have h1 : a * i + a ≤ a * b := by
    have : a * (i + 1) ≤ a * b := Nat.mul_le_mul_left a hi
    rw [Nat.mul_add, Nat.mul_one] at this
    exact this
  have e1 : wd * y = nI (a * i) := by rw [ew, ey]; exact pk_mul a i
  have e2 : wd - 1 - x = nI (a - 1 - j) := by
    rw [ew, ex]
    have : nI a - 1 = nI (a - 1) := pk_sub (b := 1) (by omega)
    rw [this]
    exact pk_sub (by omega)
  by_cases hc : c
  · rw [if_pos hc, e1, ex, nI_add]
    exact vp_in_nI (by omega) (by decide)
  · rw [if_neg hc, e1, e2, nI_add]
    exact vp_in_nI (by omega) (by decide)
def gf_edS (w : Nat → Nat → Int32) (k wd : Int32) (i j : Nat) (n : Int32) : Int32 := n + (if 0 < nI j ∧ ¬ gf_laid w k wd (nI i) (nI j) = gf_laid w k wd (nI i) (nI j - 1) then 1 else 0) + (if 0 < nI i ∧ ¬ gf_laid w k wd (nI i) (nI j) = gf_laid w k wd (nI i - 1) (nI j) then 1 else 0)
def gf_edR (w : Nat → Nat → Int32) (k wd : Int32) (a i : Nat) (n : Int32) : Int32 := gp_it (gf_edS w k wd i) 0 a n
def gf_edges (w : Nat → Nat → Int32) (k wd : Int32) (a b : Nat) : Int32 := gp_it (gf_edR w k wd a) 0 b 0
set_option maxRecDepth 100000 in
theorem gl_Rf_edges {k wd hh : Int32} {a b : Nat} (i0 : vp_in k 7) (ew : wd = nI a) (eh : hh = nI b) (hab : a * b ≤ 400) (ha : 0 < a) (hb : 0 < b) {i : Nat} (hi : i < b) (n0 : Int32) (hp : gp_Go l G (d + 1) m_Rf_edges K 13 [some (.ref 95), some (.int k), some (.int wd), some (.int hh), some (.int (gf_edR w k wd a i n0)), some (.int (nI (i + 1))), none] [] (gv w u q) 0 0) : gp_Go l G (d + 1) m_Rf_edges K 22 [some (.ref 95), some (.int k), some (.int wd), some (.int hh), some (.int n0), some (.int (nI i)), some (.int 0)] [] (gv w u q) 0 0 := by
  have ha4 : a ≤ 400 := Nat.le_trans (Nat.le_mul_of_pos_right a hb) hab
  have hb4 : b ≤ 400 := Nat.le_trans (Nat.le_mul_of_pos_left b ha) hab
  refine gp_iter (P := fun j n => ∀ x, x = nI j → gp_Go l G (d + 1) m_Rf_edges K 22 [some (.ref 95), some (.int k), some (.int wd), some (.int hh), some (.int n), some (.int (nI i)), some (.int x)] [] (gv w u q) 0 0) (gf_edS w k wd i) a ?_ a 0 n0 (by omega) ?_ 0 rfl
  · intro j n hj hq x ex
    subst ex
    have hq := hq _ (gp_inc rfl)
    unfold gf_edS at hq
    have snd : ∀ n1 : Int32, gp_Go l G (d + 1) m_Rf_edges K 22 [some (.ref 95), some (.int k), some (.int wd), some (.int hh), some (.int (n1 + (if 0 < nI i ∧ ¬ gf_laid w k wd (nI i) (nI j) = gf_laid w k wd (nI i - 1) (nI j) then 1 else 0))), some (.int (nI i)), some (.int (nI j + Int32.ofInt 1))] [] (gv w u q) 0 0 → gp_Go l G (d + 1) m_Rf_edges K 68 [some (.ref 95), some (.int k), some (.int wd), some (.int hh), some (.int n1), some (.int (nI i)), some (.int (nI j))] [] (gv w u q) 0 0 := by
      intro n1 hq
      refine gp_go od_Rf_edges rfl ?_
      (repeat refine gp_gc [13, 22, 68] od_Rf_edges rfl rfl ?_)
      by_cases b1 : 0 < nI i
      rotate_left
      · rw [if_neg (fun z => b1 z.1)] at hq
        refine gb1_le_t' b1 ?_
        (repeat refine gp_gc [13, 22, 68] od_Rf_edges rfl rfl ?_)
        exact hq
      have hi1 : 1 ≤ i := by
        rcases Nat.eq_zero_or_pos i with z | z
        · subst z; exact absurd b1 (by decide)
        · exact z
      have ei : nI i - 1 = nI (i - 1) := pk_sub (b := 1) hi1
      refine gb1_le_f' b1 ?_
      (repeat refine gp_gc [13, 22, 68] od_Rf_edges rfl rfl ?_)
      refine sp_Rf_laidAt (d := d) i0 (gf_ix ew rfl rfl hi hj hab) ?_
      (repeat refine gp_gc [13, 22, 68] od_Rf_edges rfl rfl ?_)
      refine sp_Rf_laidAt (d := d) i0 (gf_ix (i := i - 1) ew ei rfl (by omega) hj hab) ?_
      (repeat refine gp_gc [13, 22, 68] od_Rf_edges rfl rfl ?_)
      by_cases b2 : gf_laid w k wd (nI i) (nI j) = gf_laid w k wd (nI i - 1) (nI j)
      · rw [if_neg (fun z => z.2 b2)] at hq
        refine gb_eq_t b2 ?_
        (repeat refine gp_gc [13, 22, 68] od_Rf_edges rfl rfl ?_)
        exact hq
      · rw [if_pos ⟨b1, b2⟩] at hq
        refine gb_eq_f b2 ?_
        (repeat refine gp_gc [13, 22, 68] od_Rf_edges rfl rfl ?_)
        exact hq
    refine gp_go od_Rf_edges rfl ?_
    (repeat refine gp_gc [13, 22, 68] od_Rf_edges rfl rfl ?_)
    refine gb_ge_f (by rw [ew]; exact nI_ge hj (by omega)) ?_
    (repeat refine gp_gc [13, 22, 68] od_Rf_edges rfl rfl ?_)
    by_cases b1 : 0 < nI j
    rotate_left
    · have c2 : ¬ (0 < nI j ∧ ¬ gf_laid w k wd (nI i) (nI j) = gf_laid w k wd (nI i) (nI j - 1)) := fun z => b1 z.1
      rw [if_neg c2] at hq
      refine gb1_le_t' b1 ?_
      (repeat refine gp_gc [13, 22, 68] od_Rf_edges rfl rfl ?_)
      exact snd _ hq
    have hj1 : 1 ≤ j := by
      rcases Nat.eq_zero_or_pos j with z | z
      · subst z; exact absurd b1 (by decide)
      · exact z
    have ej : nI j - 1 = nI (j - 1) := pk_sub (b := 1) hj1
    refine gb1_le_f' b1 ?_
    (repeat refine gp_gc [13, 22, 68] od_Rf_edges rfl rfl ?_)
    refine sp_Rf_laidAt (d := d) i0 (gf_ix ew rfl rfl hi hj hab) ?_
    (repeat refine gp_gc [13, 22, 68] od_Rf_edges rfl rfl ?_)
    refine sp_Rf_laidAt (d := d) i0 (gf_ix (j := j - 1) ew rfl ej hi (by omega) hab) ?_
    (repeat refine gp_gc [13, 22, 68] od_Rf_edges rfl rfl ?_)
    by_cases b2 : gf_laid w k wd (nI i) (nI j) = gf_laid w k wd (nI i) (nI j - 1)
    · have c2 : ¬ (0 < nI j ∧ ¬ gf_laid w k wd (nI i) (nI j) = gf_laid w k wd (nI i) (nI j - 1)) := fun z => z.2 b2
      rw [if_neg c2] at hq
      refine gb_eq_t b2 ?_
      (repeat refine gp_gc [13, 22, 68] od_Rf_edges rfl rfl ?_)
      exact snd _ hq
    · rw [if_pos ⟨b1, b2⟩] at hq
      refine gb_eq_f b2 ?_
      (repeat refine gp_gc [13, 22, 68] od_Rf_edges rfl rfl ?_)
      exact snd _ hq
  · intro x ex
    subst ex
    refine gp_go od_Rf_edges rfl ?_
    (repeat refine gp_gc [13, 22, 68] od_Rf_edges rfl rfl ?_)
    refine gb_ge_t (by rw [ew]; exact Int32.le_refl _) ?_
    (repeat refine gp_gc [13, 22, 68] od_Rf_edges rfl rfl ?_)
    refine gp_drop 6 ?_
    have e1 : nI i + Int32.ofInt 1 = nI (i + 1) := gp_inc rfl
    rw [e1]
    exact hp
set_option maxRecDepth 100000 in
theorem sp_Rf_edges {k wd : Int32} {a b : Nat} (i0 : vp_in k 7) (ew : wd = nI a) (eN : w 95 50 = nI (a * b)) (hab : a * b ≤ 400) (ha : 0 < a) (hb : 0 < b) (h : K (some (.int (gf_edges w k wd a b))) (gv w u q)) : gp_Cal l G (d + 1) m_Rf_edges [.ref 95, .int k, .int wd] (gv w u q) K := by
  refine gp_enter od_Rf_edges rfl ?_
  have ha4 : a ≤ 400 := Nat.le_trans (Nat.le_mul_of_pos_right a hb) hab
  have hb4 : b ≤ 400 := Nat.le_trans (Nat.le_mul_of_pos_left b ha) hab
  have eh : w 95 50 / wd = nI b := by rw [eN, ew, pk_div (by omega) ha (by omega), Nat.mul_div_cancel_left b ha]
  (repeat refine gp_gc [13, 22, 68] od_Rf_edges rfl rfl ?_)
  refine And.intro (by rw [ew]; exact nI_ne0 ha (by omega)) ?_
  (repeat refine gp_gc [13, 22, 68] od_Rf_edges rfl rfl ?_)
  rw [eh]
  refine gp_iter (P := fun j n => ∀ x, x = nI j → gp_Go l G (d + 1) m_Rf_edges K 13 [some (.ref 95), some (.int k), some (.int wd), some (.int (nI b)), some (.int n), some (.int x), none] [] (gv w u q) 0 0) (gf_edR w k wd a) b ?_ b 0 0 (by omega) ?_ 0 rfl
  · intro i n hi hp x ex
    subst ex
    refine gp_go od_Rf_edges rfl ?_
    (repeat refine gp_gc [13, 22, 68] od_Rf_edges rfl rfl ?_)
    refine gb_ge_f (nI_ge hi (by omega)) ?_
    (repeat refine gp_gc [13, 22, 68] od_Rf_edges rfl rfl ?_)
    exact gl_Rf_edges i0 ew rfl hab ha hb hi n (hp _ rfl)
  · intro x ex
    subst ex
    refine gp_go od_Rf_edges rfl ?_
    (repeat refine gp_gc [13, 22, 68] od_Rf_edges rfl rfl ?_)
    refine gb_ge_t (Int32.le_refl _) ?_
    (repeat refine gp_gc [13, 22, 68] od_Rf_edges rfl rfl ?_)
    exact h

end
