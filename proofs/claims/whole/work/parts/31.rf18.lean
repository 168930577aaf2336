section
variable {l : Launch} {G : gp_G} {d : Nat} {w : Nat → Nat → Int32} {u : Int64 × (Nat → Int64)} {q : Nat → Nat} {K : Option Value → gp_H → Prop}
/-! ===== what of the world the readings hang on ===== -/
def gf_same (w W : Nat → Nat → Int32) : Prop := (∀ b, 96 ≤ b → b ≤ 104 → W b = w b) ∧ W 107 = w 107 ∧ W 108 = w 108 ∧ W 95 1 = w 95 1 ∧ W 95 13 = w 95 13
theorem gf_same_R {w W : Nat → Nat → Int32} (h : gs_R w W) : gf_same w W := by
  refine ⟨fun b h1 h2 => h.1 b ?_ (by omega) (by omega), h.1 107 rfl (by decide) (by decide), h.1 108 rfl (by decide) (by decide), h.2.1 1 rfl, h.2.1 13 rfl⟩
  rcases (show b = 96 ∨ b = 97 ∨ b = 98 ∨ b = 99 ∨ b = 100 ∨ b = 101 ∨ b = 102 ∨ b = 103 ∨ b = 104 by omega) with rfl | rfl | rfl | rfl | rfl | rfl | rfl | rfl | rfl <;> rfl
theorem gf_left_congr {w W : Nat → Nat → Int32} (h : gf_same w W) (m y : Int32) : gf_depth W m = gf_depth w m ∧ gf_left W m y = gf_left w m y := by
  have e1 : gf_depth W m = gf_depth w m := by
    unfold gf_depth
    rw [h.1 99 (by decide) (by decide), h.2.2.2.2]
  refine ⟨e1, ?_⟩
  unfold gf_left
  rw [e1, h.1 104 (by decide) (by decide), h.1 96 (by decide) (by decide)]
theorem gf_can_congr {w W : Nat → Nat → Int32} (h : gf_same w W) (kn : Nat) (ms : Nat → Nat) (i t : Nat) (tk : Nat → Nat) : gf_can W kn ms i t tk ↔ gf_can w kn ms i t tk := by
  unfold gf_can gf_seen
  rw [h.1 100 (by decide) (by decide), h.1 101 (by decide) (by decide), h.1 102 (by decide) (by decide), h.1 103 (by decide) (by decide), h.2.1, h.2.2.1, h.2.2.2.1, (gf_left_congr h _ _).2]
theorem gz_P_congr {w W : Nat → Nat → Int32} (h : gf_same w W) (ms : Nat → Nat) (PL : List (gf_L × gf_L)) : gz_P W ms PL = gz_P w ms PL := by
  funext x
  unfold gz_P gf_Q gf_Fm gf_worn
  rw [h.1 96 (by decide) (by decide), h.1 98 (by decide) (by decide), h.2.2.2.1, (gf_left_congr h _ _).2, (gf_left_congr h _ (w 95 1)).1]
theorem gz_all_congr {w W : Nat → Nat → Int32} (h : gf_same w W) (kn : Nat) (ms : Nat → Nat) (PL : List (gf_L × gf_L)) (n : Nat) : gz_all W kn ms PL n = gz_all w kn ms PL n := by
  unfold gz_all
  rw [gz_ok_congr (gf_can_congr h kn ms), gz_co_congr (h.1 97 (by decide) (by decide)) (h.1 103 (by decide) (by decide)), gz_P_congr h]
theorem gf_mind_R {w W : Nat → Nat → Int32} {kn : Nat} {PL : List (gf_L × gf_L)} (h : gs_R w W) (hM : gf_mind w kn PL) : gf_mind W kn PL :=
  ⟨by rw [h.1 110 rfl (by decide) (by decide)]; exact hM.1, hM.2.1, gf_prs_congr (h.1 114 rfl (by decide) (by decide)) (h.1 115 rfl (by decide) (by decide)) (h.1 116 rfl (by decide) (by decide)) (h.1 117 rfl (by decide) (by decide)) PL 0 hM.2.2⟩
theorem gp_it_congr {X : Type} {f g : Nat → X → X} : ∀ {k a : Nat} {x : X}, (∀ i, a ≤ i → i < a + k → f i = g i) → gp_it f a k x = gp_it g a k x
  | 0, _, _, _ => rfl
  | k + 1, a, x, h => by
    unfold gp_it
    rw [h a (by omega) (by omega)]
    exact gp_it_congr (fun i h1 h2 => h i (by omega) (by omega))
def gz_pk (tk : Nat → Nat) (n : Nat) : Int32 := gp_it (gf_pkS (fun j => nI (tk j))) 0 n 0
theorem gz_pk_e {f : Nat → Int32} {tk : Nat → Nat} {n : Nat} (h : ∀ j, j < n → f j = nI (tk j)) : gp_it (gf_pkS f) 0 n 0 = gz_pk tk n :=
  gp_it_congr (fun i _ hi => by funext v; unfold gf_pkS; rw [h i (by omega)])
/-! ===== the reference's methods: trial ===== -/
def gf_tkI (takings : Int32) (i : Nat) : Int32 := (takings >>> ((2 * nI i) &&& 31)) &&& 3
def gf_trC (w : Nat → Nat → Int32) (ms : Nat → Nat) (takings : Int32) (n : Nat) : Prop := ∀ i t, i < n → t < 4 → gf_tkI takings i = nI t → 1 < t → ¬ w 103 (2 * ms i + t - 2) = -1
section
variable {n T : Nat} {ms : Nat → Nat}
def gf_trW (w : Nat → Nat → Int32) (T : Nat) (takings : Int32) (p : Nat → Int32) : Nat → Nat → Int32 := gr (gw (gw w 137 T (w 95 2)) 139 T takings) 138 p
set_option maxRecDepth 100000 in
theorem sp_Rf_trial {takings : Int32} (hm : gf_ms w n ms) (hn : n ≤ 16) (eT : w 95 65 = nI T) (hT : T ≤ 40) (h1 : 1 ≤ n → n ≤ 10 → 0 ≤ takings → takings ≤ 1 <<< ((2 * nI n) &&& 31) - 1 → T < 40 → gf_trC w ms takings n → ∀ p, (∀ j, j < n → p (10 * T + j) = w 105 j) → (∀ x, x < 10 * T → p x = w 138 x) → K (some (.int (nI T))) (gv (gw (gf_trW w T takings p) 95 65 (nI (T + 1))) u q)) (h0 : ¬ (1 ≤ n ∧ n ≤ 10 ∧ (0 ≤ takings ∧ takings ≤ 1 <<< ((2 * nI n) &&& 31) - 1) ∧ T < 40 ∧ gf_trC w ms takings n) → K (some (.int (-1))) (gv w u q)) : gp_Cal l G (d + 1) m_Rf_trial [.ref 95, .int takings] (gv w u q) K := by
  refine gp_enter od_Rf_trial rfl ?_
  have cT : (w 95 65).toNatClampNeg = T := by rw [eT]; exact nI_clamp (by omega)
  (repeat refine gp_gc [47, 122] od_Rf_trial rfl rfl ?_)
  by_cases b0 : n = 0
  · refine gb1_eq_t (show w 95 2 = 0 by rw [hm.1, b0]; rfl) ?_
    (repeat refine gp_gc [47, 122] od_Rf_trial rfl rfl ?_)
    exact h0 (fun z => by omega)
  refine gb1_eq_f (show ¬ w 95 2 = 0 by rw [hm.1]; exact nI_ne0 (by omega) (by omega)) ?_
  (repeat refine gp_gc [47, 122] od_Rf_trial rfl rfl ?_)
  by_cases b1 : n ≤ 10
  rotate_left
  · refine gb_gt_t (show nI 10 < w 95 2 by rw [hm.1]; exact nI_lt (by omega) (by omega)) ?_
    (repeat refine gp_gc [47, 122] od_Rf_trial rfl rfl ?_)
    exact h0 (fun z => b1 z.2.1)
  refine gb_gt_f (show ¬ nI 10 < w 95 2 by rw [hm.1]; exact nI_nlt (by omega) (by omega)) ?_
  (repeat refine gp_gc [47, 122] od_Rf_trial rfl rfl ?_)
  have em : (Int32.ofInt 1 <<< ((Int32.ofInt 2 * w 95 2) &&& 31) - Int32.ofInt 1 : Int32) = 1 <<< ((2 * nI n) &&& 31) - 1 := by rw [hm.1]; rfl
  refine sp_Rf_isIn (fun a2 b2 => ?_) (fun n2 => ?_)
  rotate_left
  · (repeat refine gp_gc [47, 122] od_Rf_trial rfl rfl ?_)
    refine gb1_eq_t rfl ?_
    (repeat refine gp_gc [47, 122] od_Rf_trial rfl rfl ?_)
    refine h0 (fun z => n2 ⟨z.2.2.1.1, ?_⟩)
    rw [hm.1]
    exact z.2.2.1.2
  rw [hm.1] at b2
  (repeat refine gp_gc [47, 122] od_Rf_trial rfl rfl ?_)
  refine gb1_eq_f (by decide) ?_
  (repeat refine gp_gc [47, 122] od_Rf_trial rfl rfl ?_)
  by_cases b3 : T < 40
  rotate_left
  · refine gb_ne_f (show w 95 65 = nI 40 by rw [eT]; exact congrArg nI (by omega)) ?_
    (repeat refine gp_gc [47, 122] od_Rf_trial rfl rfl ?_)
    exact h0 (fun z => b3 z.2.2.2.1)
  refine gb_ne_t (show ¬ w 95 65 = nI 40 by rw [eT]; exact fun z => by have := (nI_eq (by omega) (by decide)).mp z; omega) ?_
  (repeat refine gp_gc [47, 122] od_Rf_trial rfl rfl ?_)
  have iT : vp_in (w 95 65) 40 := by rw [eT]; exact vp_in_nI b3 (by decide)
  have copy : gf_trC w ms takings n → ∀ (r j : Nat) (p : Nat → Int32), j + r = n → (∀ i, i < j → p (10 * T + i) = w 105 i) → (∀ x, x < 10 * T → p x = w 138 x) → gp_Go l G (d + 1) m_Rf_trial K 122 [some (.ref 95), some (.int takings), some (.int (nI j)), none] [] (gv (gf_trW w T takings p) u q) 0 0 := by
    intro hC r
    induction r with
    | zero =>
      intro j p hj hp1 hp2
      obtain rfl : j = n := by omega
      have h1 := h1 (by omega) b1 a2 b2 b3 hC p hp1 hp2
      have k163 : ∀ x1 : Int32, x1 = nI (T + 1) → gp_Go l G (d + 1) m_Rf_trial K 163 [some (.ref 95), some (.int takings), some (.int (nI j)), none] [.int x1, .ref 95] (gv (gf_trW w T takings p) u q) 0 0 := by
        intro x1 ex
        rw [← ex] at h1
        have e2 : x1 - 1 = nI T := by rw [ex]; exact nI_pred T
        rw [← e2] at h1
        refine gp_go od_Rf_trial rfl ?_
        (repeat refine gp_gc [47, 122] od_Rf_trial rfl rfl ?_)
        exact h1
      refine gp_go od_Rf_trial rfl ?_
      (repeat refine gp_gc [47, 122, 163] od_Rf_trial rfl rfl ?_)
      refine gb_ge_t (show w 95 2 ≤ nI j by rw [hm.1]; exact Int32.le_refl _) ?_
      (repeat refine gp_gc [47, 122, 163] od_Rf_trial rfl rfl ?_)
      exact k163 _ (show w 95 65 + 1 = nI (T + 1) by rw [eT, nI_1])
    | succ r ih =>
      intro j p hj hp1 hp2
      have cj : (nI j).toNatClampNeg = j := nI_clamp (by omega)
      have e10 : 10 * w 95 65 + nI j = nI (10 * T + j) := by rw [eT]; show nI 10 * nI T + nI j = _; rw [pk_mul, nI_add]
      have i10 : vp_in (nI (10 * T + j)) 400 := vp_in_nI (by omega) (by decide)
      have c10 : (nI (10 * T + j)).toNatClampNeg = 10 * T + j := nI_clamp (by omega)
      refine gp_go od_Rf_trial rfl ?_
      (repeat refine gp_gc [47, 122] od_Rf_trial rfl rfl ?_)
      refine gb_ge_f (show ¬ w 95 2 ≤ nI j by rw [hm.1]; exact nI_ge (by omega) (by omega)) ?_
      (repeat refine gp_gc [47, 122] od_Rf_trial rfl rfl ?_)
      refine And.intro (vp_in_nI (by omega) (by decide)) ?_
      (repeat refine gp_gc [47, 122] od_Rf_trial rfl rfl ?_)
      rw [show (Int8.ofInt 10).toInt32 * gf_trW w T takings p 95 65 + nI j = nI (10 * T + j) from e10]
      refine And.intro i10 ?_
      (repeat refine gp_gc [47, 122] od_Rf_trial rfl rfl ?_)
      rw [cj, c10, gp_inc (i := j) rfl]
      refine ih (j + 1) (upd p (10 * T + j) (w 105 j)) (by omega) (fun i hi => ?_) (fun x hx => (pk_un (by omega)).trans (hp2 x hx))
      by_cases e : i = j
      · subst e
        exact pk_us
      · exact (pk_un (by omega)).trans (hp1 i (by omega))
  have check : ∀ (r j : Nat), j + r = n → (gf_trC w ms takings j) → gp_Go l G (d + 1) m_Rf_trial K 47 [some (.ref 95), some (.int takings), some (.int (nI j)), none] [] (gv w u q) 0 0 := by
    intro r
    induction r with
    | zero =>
      intro j hj hC
      obtain rfl : j = n := by omega
      refine gp_go od_Rf_trial rfl ?_
      (repeat refine gp_gc [47, 122] od_Rf_trial rfl rfl ?_)
      refine gb_ge_t (show w 95 2 ≤ nI j by rw [hm.1]; exact Int32.le_refl _) ?_
      (repeat refine gp_gc [47, 122] od_Rf_trial rfl rfl ?_)
      refine And.intro iT ?_
      (repeat refine gp_gc [47, 122] od_Rf_trial rfl rfl ?_)
      refine And.intro iT ?_
      (repeat refine gp_gc [47, 122] od_Rf_trial rfl rfl ?_)
      rw [cT]
      exact copy hC j 0 (w 138) (by omega) (fun i hi => by omega) (fun _ _ => rfl)
    | succ r ih =>
      intro j hj hC
      obtain ⟨m1, m2, m3⟩ := hm.2 j (by omega)
      have cj : (nI j).toNatClampNeg = j := nI_clamp (by omega)
      obtain ⟨t, ht, et⟩ := pk_andE (takings >>> ((2 * nI j) &&& 31)) (m := 3) 2 rfl
      have et : gf_tkI takings j = nI t := et
      have ht : t < 4 := ht
      refine gp_go od_Rf_trial rfl ?_
      (repeat refine gp_gc [47, 122] od_Rf_trial rfl rfl ?_)
      refine gb_ge_f (show ¬ w 95 2 ≤ nI j by rw [hm.1]; exact nI_ge (by omega) (by omega)) ?_
      (repeat refine gp_gc [47, 122] od_Rf_trial rfl rfl ?_)
      rw [show (takings >>> ((Int32.ofInt 2 * nI j) &&& 31)) &&& Int32.ofInt 3 = nI t from et]
      have next : (1 < t → ¬ w 103 (2 * ms j + t - 2) = -1) → gf_trC w ms takings (j + 1) := by
        intro hn i t' hi ht' et'
        by_cases e : i = j
        · subst e
          rw [et] at et'
          have := (nI_eq (by omega) (by omega)).mp et'
          subst this
          exact hn
        · exact hC i t' (by omega) ht' et'
      by_cases c1 : 1 < t
      rotate_left
      · refine gb_le_t (nI_le (b := 1) (by omega) (by decide)) ?_
        (repeat refine gp_gc [47, 122] od_Rf_trial rfl rfl ?_)
        rw [gp_inc (i := j) rfl]
        refine gp_drop 3 ?_
        exact ih (j + 1) (by omega) (next (fun z => absurd z c1))
      refine gb_le_f (nI_ge c1 (by omega)) ?_
      (repeat refine gp_gc [47, 122] od_Rf_trial rfl rfl ?_)
      refine And.intro (vp_in_nI (by omega) (by decide)) ?_
      (repeat refine gp_gc [47, 122] od_Rf_trial rfl rfl ?_)
      rw [cj, m1]
      have ex : 2 * nI (ms j) + nI t - 2 = nI (2 * ms j + t - 2) := by
        show nI 2 * nI (ms j) + nI t - nI 2 = _
        rw [pk_mul, nI_add, pk_sub (by omega)]
      have cx : (2 * nI (ms j) + nI t - 2).toNatClampNeg = 2 * ms j + t - 2 := by rw [ex]; exact nI_clamp (by omega)
      refine And.intro (show vp_in (2 * nI (ms j) + nI t - 2) 32 by rw [ex]; exact vp_in_nI (by omega) (by decide)) ?_
      (repeat refine gp_gc [47, 122] od_Rf_trial rfl rfl ?_)
      by_cases c2 : w 103 (2 * nI (ms j) + nI t - 2).toNatClampNeg = -1
      · refine gb_ne_f c2 ?_
        (repeat refine gp_gc [47, 122] od_Rf_trial rfl rfl ?_)
        rw [cx] at c2
        exact h0 (fun z => z.2.2.2.2 j t (by omega) ht et c1 c2)
      · refine gb_ne_t c2 ?_
        (repeat refine gp_gc [47, 122] od_Rf_trial rfl rfl ?_)
        rw [cx] at c2
        rw [gp_inc (i := j) rfl]
        refine gp_drop 3 ?_
        exact ih (j + 1) (by omega) (next (fun _ => c2))
  exact check n 0 (by omega) (fun i t hi => by omega)
end

end
