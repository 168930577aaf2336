section
variable {l : Launch} {G : gp_G} {d : Nat} {w : Nat → Nat → Int32} {u : Int64 × (Nat → Int64)} {q : Nat → Nat} {K : Option Value → gp_H → Prop}
/-! ===== the class's methods: widths ===== -/
section
variable {N Ng a b m kn : Nat} {TL : Option gf_L} {D : Nat → gy_D}
theorem gq_prime {n i : Nat} (h : ∀ e, 2 ≤ e → e < i → ¬ n % e = 0) (hi : n < i * i) (hn : 2 ≤ n) : gf_isP n := by
  refine ⟨fun e h2 hen hm => ?_, by omega⟩
  have hd : n = e * (n / e) := (Nat.mul_div_cancel' (Nat.dvd_of_mod_eq_zero hm)).symm
  have hf : 2 ≤ n / e := by
    rcases Nat.lt_or_ge (n / e) 2 with z | z
    · have : e * (n / e) ≤ e * 1 := Nat.mul_le_mul_left e (by omega)
      omega
    · exact z
  rcases Nat.lt_or_ge e i with z | z
  · exact h e h2 z hm
  · rcases Nat.lt_or_ge (n / e) i with y | y
    · refine h (n / e) hf y ?_
      have e1 : n = (n / e) * e := by rw [Nat.mul_comm]; exact hd
      calc n % (n / e) = ((n / e) * e) % (n / e) := by rw [← e1]
        _ = 0 := Nat.mul_mod_right _ _
    · have : i * i ≤ e * (n / e) := Nat.mul_le_mul z y
      omega
set_option maxRecDepth 100000 in
theorem sp_Wi_isPrime {V : gp_H} {v : Int32} {n : Nat} (ev : v = nI n) (hn : n ≤ 400) (h1 : gf_isP n → K (some (.int 1)) V) (h0 : ¬ gf_isP n → K (some (.int 0)) V) : gp_Cal l G d m_Wi_isPrime [.int v] V K := by
  subst ev
  refine gp_enter od_Wi_isPrime rfl ?_
  have loop : ∀ (r i : Nat), i + r = n + 2 → 2 ≤ i → (∀ e, 2 ≤ e → e < i → ¬ n % e = 0 ∨ n = 0) → gp_Go l G d m_Wi_isPrime K 2 [some (.int (nI n)), some (.int (nI i))] [] V 0 0 := by
    intro r
    have stop : ∀ i, 2 ≤ i → i ≤ n + 2 → n < i * i → (∀ e, 2 ≤ e → e < i → ¬ n % e = 0 ∨ n = 0) → gp_Go l G d m_Wi_isPrime K 2 [some (.int (nI n)), some (.int (nI i))] [] V 0 0 := by
      intro i h2 hi hc hall
      have hii : i * i ≤ 402 * 402 := Nat.mul_le_mul (by omega) (by omega)
      refine gp_go od_Wi_isPrime rfl ?_
      (repeat refine gp_gc [2] od_Wi_isPrime rfl rfl ?_)
      rw [pk_mul]
      refine gb_gt_t (nI_lt hc (by omega)) ?_
      (repeat refine gp_gc [2] od_Wi_isPrime rfl rfl ?_)
      by_cases c2 : n < 2
      · refine gb_lt_t (nI_lt (b := 2) c2 (by decide)) ?_
        (repeat refine gp_gc [2] od_Wi_isPrime rfl rfl ?_)
        exact And.intro (Or.inl rfl) (h0 (fun z => by have := z.2; omega))
      · refine gb_lt_f (nI_nlt (b := 2) (by omega) (by omega)) ?_
        (repeat refine gp_gc [2] od_Wi_isPrime rfl rfl ?_)
        refine And.intro (Or.inr rfl) (h1 (gq_prime (i := i) (fun e a b => ?_) hc (by omega)))
        exact (hall e a b).resolve_right (by omega)
    induction r with
    | zero =>
      intro i hi h2 hall
      refine stop i h2 (by omega) ?_ hall
      have : i * 2 ≤ i * i := Nat.mul_le_mul_left i h2
      omega
    | succ r ih =>
      intro i hi h2 hall
      by_cases c : n < i * i
      · exact stop i h2 (by omega) c hall
      have hii : i * i ≤ 402 * 402 := Nat.mul_le_mul (by omega) (by omega)
      have inc : nI i + Int32.ofInt 1 = nI (i + 1) := gp_inc rfl
      have i2 : i * 2 ≤ i * i := Nat.mul_le_mul_left i h2
      refine gp_go od_Wi_isPrime rfl ?_
      (repeat refine gp_gc [2] od_Wi_isPrime rfl rfl ?_)
      rw [pk_mul]
      refine gb_gt_f (nI_nlt (by omega) (by omega)) ?_
      (repeat refine gp_gc [2] od_Wi_isPrime rfl rfl ?_)
      refine And.intro (nI_ne0 (by omega) (by omega)) ?_
      rw [pk_rem (by omega) (by omega) (by omega)]
      (repeat refine gp_gc [2] od_Wi_isPrime rfl rfl ?_)
      have ml := Nat.mod_lt n (show 0 < i by omega)
      by_cases c3 : n % i = 0
      · refine gb1_ne_f (by rw [c3]; rfl) ?_
        (repeat refine gp_gc [2] od_Wi_isPrime rfl rfl ?_)
        refine And.intro (Or.inl rfl) (h0 (fun z => z.1 i h2 ?_ c3))
        omega
      · refine gb1_ne_t (nI_ne0 (by omega) (by omega)) ?_
        (repeat refine gp_gc [2] od_Wi_isPrime rfl rfl ?_)
        rw [inc]
        refine ih (i + 1) (by omega) (by omega) (fun e a b => ?_)
        by_cases q : e = i
        · rw [q]; exact Or.inl c3
        · exact hall e a (by omega)
  (repeat refine gp_gc [2] od_Wi_isPrime rfl rfl ?_)
  exact loop n 2 (by omega) (by omega) (fun e a b => absurd b (by omega))
theorem gq_abs {x y : Nat} (hx : x ≤ 400) (hy : y ≤ 400) : (if 0 ≤ nI x - nI y then nI x - nI y else 0 - (nI x - nI y)) = (if nI y < nI x then nI x - nI y else nI y - nI x) := by
  have e := pk_sub_toInt (a := x) (b := y) (by omega) (by omega)
  have e0 : (0 : Int32).toInt = 0 := by decide
  by_cases c : y < x
  · rw [if_pos (nI_lt c (by omega)), if_pos (by rw [Int32.le_iff_toInt_le, e, e0]; omega)]
  · rw [if_neg (nI_nlt (by omega) (by omega))]
    by_cases c2 : x = y
    · subst c2
      rw [if_pos (by rw [Int32.le_iff_toInt_le, e, e0]; omega)]
    · rw [if_neg (by rw [Int32.le_iff_toInt_le, e, e0]; omega)]
      apply Int32.toInt_inj.mp
      rw [Int32.toInt_sub, e, pk_sub_toInt (by omega) (by omega), e0]
      exact (Int.bmod_eq_of_le (by omega) (by omega)).trans (by omega)
set_option maxRecDepth 100000 in
theorem sp_Wi_rankOf {wd : Int32} (hm : m < 7) (eN : w 76 1 = nI (a * b)) (hab : a * b ≤ 400) (ha : 0 < a) (hb : 0 < b) (ew : wd = nI a) (hT : gc_try w m TL) (h : ∀ W, gV w W → K (some (.int (gf_rk (gp_it (gc_edS w a (a * b)) 0 (a * b) 0) a b TL))) (gv W u q)) : gp_Cal l G (d + 4) m_Wi_rankOf [.ref 76, .int wd, .ref (gp_ma m), .ref 52] (gv w u q) K := by
  subst ew
  have ha4 : a ≤ a * b := Nat.le_mul_of_pos_right a hb
  have hb4 : b ≤ a * b := Nat.le_mul_of_pos_left b ha
  refine gp_enter od_Wi_rankOf rfl ?_
  (repeat refine gp_gc [54] od_Wi_rankOf rfl rfl ?_)
  refine sp_Br_heightFor (d := d + 3) eN hab ha (by omega) rfl ?_
  (repeat refine gp_gc [54] od_Wi_rankOf rfl rfl ?_)
  refine sp_Su_clear (d := d + 3) (fun W1 f1 z1 => ?_)
  have V1 : gV w W1 := fun b _ h2 _ _ => f1 b h2
  (repeat refine gp_gc [54] od_Wi_rankOf rfl rfl ?_)
  refine And.intro (pk_in 8 13 (by decide)) ?_
  rw [gv_a53]
  (repeat refine gp_gc [54] od_Wi_rankOf rfl rfl ?_)
  refine And.intro (pk_in 9 13 (by decide)) ?_
  rw [gv_a53]
  (repeat refine gp_gc [54] od_Wi_rankOf rfl rfl ?_)
  have k54 : ∀ p : Int32, p = gf_pr a b → gp_Go l G (d + 4) m_Wi_rankOf K 54 [some (.ref 76), some (.int (nI a)), some (.ref (gp_ma m)), some (.ref 52), some (.int (nI b))] [.int p, .int 10, .ref 53] (gv (gw (gw W1 53 8 (nI a)) 53 9 (nI b)) u q) 0 0 := by
    intro p ep
    refine gp_go od_Wi_rankOf rfl ?_
    (repeat refine gp_gc [54] od_Wi_rankOf rfl rfl ?_)
    refine And.intro (pk_in 10 13 (by decide)) ?_
    rw [gv_a53]
    (repeat refine gp_gc [54] od_Wi_rankOf rfl rfl ?_)
    refine sp_Br_edges (d := d + 3) (w := gw (gw (gw W1 53 8 (nI a)) 53 9 (nI b)) 53 (10 : Int32).toNatClampNeg p) (N := a * b) (by show W1 76 1 = _; rw [f1 76 (by decide)]; exact eN) hab rfl ha (by omega) ?_
    have eE : gp_it (gc_edS (gw (gw (gw W1 53 8 (nI a)) 53 9 (nI b)) 53 (10 : Int32).toNatClampNeg p) a (a * b)) 0 (a * b) 0 = gp_it (gc_edS w a (a * b)) 0 (a * b) 0 := by
      have e77 : gw (gw (gw W1 53 8 (nI a)) 53 9 (nI b)) 53 (10 : Int32).toNatClampNeg p 77 = w 77 := f1 77 (by decide)
      unfold gc_edS
      rw [e77]
    rw [eE]
    generalize gp_it (gc_edS w a (a * b)) 0 (a * b) 0 = ed at h ⊢
    (repeat refine gp_gc [54] od_Wi_rankOf rfl rfl ?_)
    refine And.intro (pk_in 11 13 (by decide)) ?_
    rw [gv_a53]
    (repeat refine gp_gc [54] od_Wi_rankOf rfl rfl ?_)
    refine And.intro (pk_in 12 13 (by decide)) ?_
    rw [gv_a53]
    (repeat refine gp_gc [54] od_Wi_rankOf rfl rfl ?_)
    have V5 : ∀ x y z t s : Int32, gV w (gw (gw (gw (gw (gw W1 53 8 x) 53 9 y) 53 10 z) 53 11 t) 53 12 s) := fun x y z t s => gV_w (gV_w (gV_w (gV_w (gV_w V1 (Or.inl rfl)) (Or.inl rfl)) (Or.inl rfl)) (Or.inl rfl)) (Or.inl rfl)
    have fin : ∀ W5 : Nat → Nat → Int32, W5 = gw (gw (gw (gw (gw W1 53 8 (nI a)) 53 9 (nI b)) 53 10 p) 53 11 ed) 53 12 (if 0 ≤ nI a - nI b then nI a - nI b else 0 - (nI a - nI b)) → gp_Cal l G (d + 3) m_Mi_rankBy [.ref (gp_ma m), .ref 52] (gv W5 u q) (fun r V' => gp_Go l G (d + 4) m_Wi_rankOf K 86 [some (.ref 76), some (.int (nI a)), some (.ref (gp_ma m)), some (.ref 52), some (.int (nI b))] (r.toList ++ []) V' 0 0) := by
      intro W5 e5
      have hV5 : gV w W5 := by rw [e5]; exact V5 _ _ _ _ _
      have hT5 : gc_try W5 m TL := by
        have g0 : W5 (gp_ma m) = w (gp_ma m) := gV_ma (j := 0) hV5 hm (by decide)
        have g1 : W5 (gp_ma m + 1) = w (gp_ma m + 1) := gV_ma hV5 hm (by decide)
        cases TL with
        | none => show W5 (gp_ma m) 13 = 0; rw [g0]; exact hT
        | some L =>
          obtain ⟨q0, c, q1, q2, q3, q4, q5⟩ := hT
          exact ⟨by rw [g0]; exact q0, c, by rw [g0]; exact q1, by rw [g0]; exact q2, q3, by rw [g1]; exact q4, q5⟩
      refine sp_Mi_rankBy (d := d) (w := W5) hm hT5 (fun W hU => ?_)
      have h := h W (gV_t hV5 (gV_U hU))
      have er : gc_rank (gc_F W5) TL = gf_rk ed a b TL := by
        cases TL with
        | none => rfl
        | some L =>
          show gf_val (gc_F W5) L = gf_val (gf_G (nI a) (nI b) (gf_pr a b) ed (if nI b < nI a then nI a - nI b else nI b - nI a)) L
          refine gf_val_congr (fun j hj => ?_) L
          rw [← gq_abs (by omega) (by omega), ← ep]
          rw [e5]
          rcases (show j = 0 ∨ j = 1 ∨ j = 2 ∨ j = 3 ∨ j = 4 ∨ j = 5 ∨ j = 6 ∨ j = 7 ∨ j = 8 ∨ j = 9 ∨ j = 10 ∨ j = 11 ∨ j = 12 ∨ j = 13 by omega) with rfl | rfl | rfl | rfl | rfl | rfl | rfl | rfl | rfl | rfl | rfl | rfl | rfl | rfl
          · rfl
          · exact z1 0 (by decide)
          · exact z1 1 (by decide)
          · exact z1 2 (by decide)
          · exact z1 3 (by decide)
          · exact z1 4 (by decide)
          · exact z1 5 (by decide)
          · exact z1 6 (by decide)
          · exact z1 7 (by decide)
          · rfl
          · rfl
          · rfl
          · rfl
          · rfl
      rw [er]
      refine gp_go od_Wi_rankOf rfl ?_
      exact h
    refine gs_inv rfl rfl rfl (gv_mind hm) rfl ?_
    exact fin _ rfl
  refine sp_Wi_isPrime (d := d + 3) rfl (by omega) (fun p1 => ?_) (fun n1 => ?_)
  rotate_left
  · (repeat refine gp_gc [54] od_Wi_rankOf rfl rfl ?_)
    refine gb1_eq_t rfl ?_
    (repeat refine gp_gc [54] od_Wi_rankOf rfl rfl ?_)
    exact k54 _ (gf_pr_n (fun z => n1 z.1)).symm
  (repeat refine gp_gc [54] od_Wi_rankOf rfl rfl ?_)
  refine gb1_eq_f (by decide) ?_
  (repeat refine gp_gc [54] od_Wi_rankOf rfl rfl ?_)
  refine sp_Wi_isPrime (d := d + 3) rfl (by omega) (fun p2 => ?_) (fun n1 => ?_)
  · (repeat refine gp_gc [54] od_Wi_rankOf rfl rfl ?_)
    refine gb1_eq_f (by decide) ?_
    (repeat refine gp_gc [54] od_Wi_rankOf rfl rfl ?_)
    exact k54 _ (gf_pr_y p1 p2).symm
  · (repeat refine gp_gc [54] od_Wi_rankOf rfl rfl ?_)
    refine gb1_eq_t rfl ?_
    (repeat refine gp_gc [54] od_Wi_rankOf rfl rfl ?_)
    exact k54 _ (gf_pr_n (fun z => n1 z.2)).symm
end

end
