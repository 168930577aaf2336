section
variable {l : Launch} {G : gp_G} {d : Nat} {w : Nat → Nat → Int32} {u : Int64 × (Nat → Int64)} {q : Nat → Nat} {K : Option Value → gp_H → Prop}
/-! ===== the reference's methods: agrees, ours ===== -/
def ga_W (w : Nat → Nat → Int32) (f : Nat → Int32) (y : Int32) (g : Nat → Int32) : Nat → Nat → Int32 := gr (gw (gr w 140 f) 95 2 y) 105 g
theorem gf_same_trans {w W X : Nat → Nat → Int32} (h1 : gf_same w W) (h2 : gf_same W X) : gf_same w X :=
  ⟨fun b a c => (h2.1 b a c).trans (h1.1 b a c), h2.2.1.trans h1.2.1, h2.2.2.1.trans h1.2.2.1, h2.2.2.2.1.trans h1.2.2.2.1, h2.2.2.2.2.trans h1.2.2.2.2⟩
theorem ga_same {w : Nat → Nat → Int32} {f g : Nat → Int32} {y : Int32} : gf_same w (ga_W w f y g) := by
  refine ⟨fun b h1 h2 => ?_, rfl, rfl, rfl, rfl⟩
  have e1 : ga_W w f y g b = gw (gr w 140 f) 95 2 y b := if_neg (by omega)
  have e2 : gr w 140 f b = w b := if_neg (by omega)
  rw [e1, gw_ne (by omega), e2]
theorem ga_mind {w : Nat → Nat → Int32} {f g : Nat → Int32} {y : Int32} {kn : Nat} {PL : List (gf_L × gf_L)} (hM : gf_mind w kn PL) : gf_mind (ga_W w f y g) kn PL :=
  ⟨hM.1, hM.2.1, gf_prs_congr (w := w) (W := ga_W w f y g) rfl rfl rfl rfl PL 0 hM.2.2⟩
theorem ga_back {w W : Nat → Nat → Int32} {f g g' : Nat → Int32} {y y' : Int32} (h : gs_R (ga_W w f y g) W) (hy : y' = w 95 2) : gs_R (gr (gr w 140 f) 105 g') (gr (gw W 95 2 y') 105 g') := by
  refine ⟨fun b hb h1 h2 => ?_, fun k hk => ?_, ?_⟩
  · by_cases e : b = 105
    · subst e; rfl
    · have e1 : gr (gw W 95 2 y') 105 g' b = gw W 95 2 y' b := if_neg e
      have e2 : gr (gr w 140 f) 105 g' b = gr w 140 f b := if_neg e
      rw [e1, e2, gw_ne h2, h.1 b hb h1 h2]
      have e3 : ga_W w f y g b = gw (gr w 140 f) 95 2 y b := if_neg e
      rw [e3, gw_ne h2]
  · have e1 : gr (gw W 95 2 y') 105 g' 95 = gw W 95 2 y' 95 := rfl
    have e2 : gr (gr w 140 f) 105 g' 95 = w 95 := rfl
    rw [e1, e2, gw_at]
    by_cases e : k = 2
    · rw [if_pos e, hy, e]
    · rw [if_neg e, h.2.1 k hk]
      show gw (gr w 140 f) 95 2 y 95 k = w 95 k
      rw [gw_at, if_neg e]
      rfl
  · exact h.2.2
section
variable {n T : Nat} {ms tl : Nat → Nat} {tm : Nat → Nat → Nat} {ef : Nat → Nat → gz_S} {PLf : Nat → List (gf_L × gf_L)}
def gf_tr (w : Nat → Nat → Int32) (T : Nat) (tl : Nat → Nat) (tm : Nat → Nat → Nat) : Prop := w 95 65 = nI T ∧ T ≤ 40 ∧ ∀ t, t < T → w 137 t = nI (tl t) ∧ 1 ≤ tl t ∧ tl t ≤ 10 ∧ ∀ i, i < tl t → w 138 (10 * t + i) = nI (tm t i) ∧ tm t i < 16 ∧ vp_in (w 96 (tm t i)) 7
def gz_agS (x : Int32) (n : Nat) (ef : Nat → gz_S) (k : Nat) (s : Int32) : Int32 := s ||| (if gz_pk (ef k).2 n = x then 1 <<< (nI k &&& 31) else 0)
set_option maxRecDepth 100000 in
theorem sp_Rf_agrees {t : Int32} (hmi : ∀ kn, kn < 6 → gf_mind w kn (PLf kn)) (hm : gf_ms w n ms) (hn : n ≤ 16) (htr : gf_tr w T tl tm) (hef : ∀ t, t < T → ∀ k, k < 6 → gz_bs none (gz_all w k (tm t) (PLf k) (tl t)) = some (ef t k)) (h1 : ∀ tN, t = nI tN → tN < T → ∀ f g W, (∀ i, i < n → g i = w 105 i) → gs_R (gr (gr w 140 f) 105 g) W → K (some (.int (gp_it (gz_agS (w 139 tN) (tl tN) (ef tN)) 0 6 0))) (gv W u q)) (h0 : ¬ (0 ≤ t ∧ t ≤ nI T - 1) → K (some (.int (-1))) (gv w u q)) : gp_Cal l G (d + 16) m_Rf_agrees [.ref 95, .int t] (gv w u q) K := by
  refine gp_enter od_Rf_agrees rfl ?_
  (repeat refine gp_gc [23, 58, 94, 145] od_Rf_agrees rfl rfl ?_)
  refine sp_Rf_isIn (fun a1 b1 => ?_) (fun n1 => ?_)
  rotate_left
  · rw [htr.1] at n1
    (repeat refine gp_gc [23, 58, 94, 145] od_Rf_agrees rfl rfl ?_)
    refine gb1_ne_f rfl ?_
    (repeat refine gp_gc [23, 58, 94, 145] od_Rf_agrees rfl rfl ?_)
    exact h0 n1
  rw [htr.1] at b1
  (repeat refine gp_gc [23, 58, 94, 145] od_Rf_agrees rfl rfl ?_)
  refine gb1_ne_t (by decide) ?_
  (repeat refine gp_gc [23, 58, 94, 145] od_Rf_agrees rfl rfl ?_)
  obtain ⟨tN, htN, et⟩ : ∃ tN, tN < T ∧ t = nI tN := by
    by_cases z : T = 0
    · subst z
      exact absurd (Int32.le_trans a1 b1) (by decide)
    · obtain ⟨T', rfl⟩ : ∃ T', T = T' + 1 := ⟨T - 1, by omega⟩
      have b1 : t ≤ nI (T' + 1) - 1 := b1
      rw [nI_pred] at b1
      obtain ⟨x, hx, ex⟩ := nI_of2 (n := T') (M := nI T') (nI_toInt (by have := htr.2.1; omega)) (Int32.not_lt.mpr a1) b1
      exact ⟨x, by omega, ex⟩
  have h1 := h1 tN et htN
  have hT := htr.2.1
  obtain ⟨L1, L2, L3, L4⟩ := htr.2.2 tN htN
  have ct : t.toNatClampNeg = tN := by rw [et]; exact nI_clamp (by omega)
  have it : vp_in t 40 := by rw [et]; exact vp_in_nI (by omega) (by decide)
  -- back
  have back : ∀ (res : Int32) (f g : Nat → Int32) (W : Nat → Nat → Int32) (x : Int32), (∀ i, i < n → f i = w 105 i) → gs_R (ga_W w f (nI (tl tN)) g) W → res = gp_it (gz_agS (w 139 tN) (tl tN) (ef tN)) 0 6 0 → gp_Go l G (d + 16) m_Rf_agrees K 137 [some (.ref 95), some (.int t), some (.int (w 95 2)), some (.int res), some (.int x)] [] (gv W u q) 0 0 := by
    intro res f g W x hf hW er
    have W140 : W 140 = f := hW.1 140 rfl (by decide) (by decide)
    have key : ∀ (y : Int32), y = w 95 2 → ∀ (r j : Nat) (g' : Nat → Int32), j + r = n → (∀ i, i < j → g' i = w 105 i) → gp_Go l G (d + 16) m_Rf_agrees K 145 [some (.ref 95), some (.int t), some (.int y), some (.int res), some (.int (nI j))] [] (gv (gr (gw W 95 2 y) 105 g') u q) 0 0 := by
      intro y ey r
      induction r with
      | zero =>
        intro j g' hj hg
        obtain rfl : j = n := by omega
        refine gp_go od_Rf_agrees rfl ?_
        (repeat refine gp_gc [23, 58, 94, 145] od_Rf_agrees rfl rfl ?_)
        refine gb_ge_t (show y ≤ nI j by rw [ey, hm.1]; exact Int32.le_refl _) ?_
        (repeat refine gp_gc [23, 58, 94, 145] od_Rf_agrees rfl rfl ?_)
        rw [er]
        exact h1 f g' _ hg (ga_back hW ey)
      | succ r ih =>
        intro j g' hj hg
        have cj : (nI j).toNatClampNeg = j := nI_clamp (by omega)
        refine gp_go od_Rf_agrees rfl ?_
        (repeat refine gp_gc [23, 58, 94, 145] od_Rf_agrees rfl rfl ?_)
        refine gb_ge_f (show ¬ y ≤ nI j by rw [ey, hm.1]; exact nI_ge (by omega) (by omega)) ?_
        (repeat refine gp_gc [23, 58, 94, 145] od_Rf_agrees rfl rfl ?_)
        refine And.intro (vp_in_nI (by omega) (by decide)) ?_
        (repeat refine gp_gc [23, 58, 94, 145] od_Rf_agrees rfl rfl ?_)
        refine And.intro (vp_in_nI (by omega) (by decide)) ?_
        (repeat refine gp_gc [23, 58, 94, 145] od_Rf_agrees rfl rfl ?_)
        rw [cj, gp_inc (i := j) rfl]
        refine ih (j + 1) (upd g' j (W 140 j)) (by omega) (fun i hi => ?_)
        by_cases e : i = j
        · subst e
          exact pk_us.trans (by rw [W140]; exact hf i (by omega))
        · exact (pk_un e).trans (hg i (by omega))
    obtain ⟨y, ey⟩ : ∃ y, y = w 95 2 := ⟨_, rfl⟩
    have key := key y ey n 0 (W 105) (by omega) (fun i hi => by omega)
    rw [← ey]
    refine gp_go od_Rf_agrees rfl ?_
    (repeat refine gp_gc [23, 58, 94, 145] od_Rf_agrees rfl rfl ?_)
    exact key
  -- the minds
  have minds : ∀ (f g : Nat → Int32), (∀ i, i < n → f i = w 105 i) → (∀ i, i < tl tN → g i = nI (tm tN i)) → ∀ (r k : Nat) (res : Int32) (W : Nat → Nat → Int32), k + r = 6 → gs_R (ga_W w f (nI (tl tN)) g) W → gp_it (gz_agS (w 139 tN) (tl tN) (ef tN)) k r res = gp_it (gz_agS (w 139 tN) (tl tN) (ef tN)) 0 6 0 → gp_Go l G (d + 16) m_Rf_agrees K 94 [some (.ref 95), some (.int t), some (.int (w 95 2)), some (.int res), some (.int (nI k))] [] (gv W u q) 0 0 := by
    intro f g hf hg r
    have hms : gf_ms (ga_W w f (nI (tl tN)) g) (tl tN) (tm tN) := ⟨rfl, fun i hi => ⟨hg i hi, (L4 i hi).2⟩⟩
    induction r with
    | zero =>
      intro k res W hk hW er
      obtain rfl : k = 6 := by omega
      refine gp_go od_Rf_agrees rfl ?_
      (repeat refine gp_gc [23, 58, 94, 137, 145] od_Rf_agrees rfl rfl ?_)
      refine gb_ge_t (by decide) ?_
      (repeat refine gp_gc [23, 58, 94, 137, 145] od_Rf_agrees rfl rfl ?_)
      exact back res f g W (nI 6) hf hW er
    | succ r ih =>
      intro k res W hk hW er
      have hsame : gf_same w W := gf_same_trans ga_same (gf_same_R hW)
      refine gp_go od_Rf_agrees rfl ?_
      (repeat refine gp_gc [23, 58, 94, 145] od_Rf_agrees rfl rfl ?_)
      refine gb_ge_f (show ¬ nI 6 ≤ nI k from nI_ge (by omega) (by decide)) ?_
      (repeat refine gp_gc [23, 58, 94, 145] od_Rf_agrees rfl rfl ?_)
      refine sp_Rf_seeks (d := d) (kn := k) rfl (by omega) (gf_mind_R hW (ga_mind (hmi k (by omega)))) (gs_ms hW hms) L3 (fun W2 hW2 hr => ?_)
      rw [gz_all_congr hsame, hef tN htN k (by omega)] at hr
      have hW3 := gs_trans hW hW2
      have W2n : W2 95 2 = nI (tl tN) := hW3.2.1 2 rfl
      have W139 : W2 139 = w 139 := hW3.1 139 rfl (by decide) (by decide)
      (repeat refine gp_gc [23, 58, 94, 145] od_Rf_agrees rfl rfl ?_)
      refine sp_Rf_cheapestNow (d := d + 15) W2n L3 ?_
      rw [gz_pk_e hr.2.2]
      (repeat refine gp_gc [23, 58, 94, 145] od_Rf_agrees rfl rfl ?_)
      refine And.intro it ?_
      (repeat refine gp_gc [23, 58, 94, 145] od_Rf_agrees rfl rfl ?_)
      rw [ct, W139]
      have er : gp_it (gz_agS (w 139 tN) (tl tN) (ef tN)) (k + 1) r (gz_agS (w 139 tN) (tl tN) (ef tN) k res) = _ := er
      have ih := ih (k + 1) _ W2 (by omega) hW3 er
      unfold gz_agS at ih
      by_cases c : gz_pk (ef tN k).2 (tl tN) = w 139 tN
      · rw [if_pos c] at ih
        refine gb_ne_f c ?_
        (repeat refine gp_gc [23, 58, 94, 145] od_Rf_agrees rfl rfl ?_)
        rw [gp_inc (i := k) rfl]
        exact ih
      · rw [if_neg c] at ih
        refine gb_ne_t c ?_
        (repeat refine gp_gc [23, 58, 94, 145] od_Rf_agrees rfl rfl ?_)
        rw [gp_inc (i := k) rfl]
        exact ih
  -- the trial's marks
  have marks : ∀ (f : Nat → Int32), (∀ i, i < n → f i = w 105 i) → ∀ (r j : Nat) (g : Nat → Int32) (y : Int32), j + r = tl tN → y = nI (tl tN) → (∀ i, i < j → g i = nI (tm tN i)) → gp_Go l G (d + 16) m_Rf_agrees K 58 [some (.ref 95), some (.int t), some (.int (w 95 2)), some (.int (nI j)), none] [] (gv (ga_W w f y g) u q) 0 0 := by
    intro f hf r
    induction r with
    | zero =>
      intro j g y hj ey hg
      refine gp_go od_Rf_agrees rfl ?_
      (repeat refine gp_gc [23, 58, 94, 145] od_Rf_agrees rfl rfl ?_)
      refine gb_ge_t (show y ≤ nI j by rw [ey]; exact nI_le (by omega) (by omega)) ?_
      (repeat refine gp_gc [23, 58, 94, 145] od_Rf_agrees rfl rfl ?_)
      rw [ey]
      exact minds f g hf (fun i hi => hg i (by omega)) 6 0 0 _ rfl (gs_refl _) rfl
    | succ r ih =>
      intro j g y hj ey hg
      have cj : (nI j).toNatClampNeg = j := nI_clamp (by omega)
      have e10 : 10 * t + nI j = nI (10 * tN + j) := by rw [et]; show nI 10 * nI tN + nI j = _; rw [pk_mul, nI_add]
      have c10 : (nI (10 * tN + j)).toNatClampNeg = 10 * tN + j := nI_clamp (by omega)
      refine gp_go od_Rf_agrees rfl ?_
      (repeat refine gp_gc [23, 58, 94, 145] od_Rf_agrees rfl rfl ?_)
      refine gb_ge_f (show ¬ y ≤ nI j by rw [ey]; exact nI_ge (by omega) (by omega)) ?_
      (repeat refine gp_gc [23, 58, 94, 145] od_Rf_agrees rfl rfl ?_)
      rw [show (Int8.ofInt 10).toInt32 * t + nI j = nI (10 * tN + j) from e10]
      refine And.intro (vp_in_nI (by omega) (by decide)) ?_
      (repeat refine gp_gc [23, 58, 94, 145] od_Rf_agrees rfl rfl ?_)
      refine And.intro (vp_in_nI (by omega) (by decide)) ?_
      (repeat refine gp_gc [23, 58, 94, 145] od_Rf_agrees rfl rfl ?_)
      rw [cj, c10, gp_inc (i := j) rfl]
      refine ih (j + 1) (upd g j (w 138 (10 * tN + j))) y (by omega) ey (fun i hi => ?_)
      by_cases e : i = j
      · subst e
        exact pk_us.trans (L4 i (by omega)).1
      · exact (pk_un e).trans (hg i (by omega))
  -- what is kept
  have keep : ∀ (r j : Nat) (f : Nat → Int32), j + r = n → (∀ i, i < j → f i = w 105 i) → gp_Go l G (d + 16) m_Rf_agrees K 23 [some (.ref 95), some (.int t), some (.int (w 95 2)), some (.int (nI j)), none] [] (gv (gr w 140 f) u q) 0 0 := by
    intro r
    induction r with
    | zero =>
      intro j f hj hf
      have k53 : ∀ y, y = nI (tl tN) → gp_Go l G (d + 16) m_Rf_agrees K 53 [some (.ref 95), some (.int t), some (.int (w 95 2)), some (.int (nI j)), none] [.int y, .ref 95] (gv (gr w 140 f) u q) 0 0 := by
        intro y ey
        refine gp_go od_Rf_agrees rfl ?_
        (repeat refine gp_gc [23, 58, 94, 145] od_Rf_agrees rfl rfl ?_)
        exact marks f (fun i hi => hf i (by omega)) (tl tN) 0 (w 105) y (by omega) ey (fun i hi => by omega)
      refine gp_go od_Rf_agrees rfl ?_
      (repeat refine gp_gc [23, 53, 58, 94, 145] od_Rf_agrees rfl rfl ?_)
      refine gb_ge_t (show w 95 2 ≤ nI j by rw [hm.1]; exact nI_le (by omega) (by omega)) ?_
      (repeat refine gp_gc [23, 53, 58, 94, 145] od_Rf_agrees rfl rfl ?_)
      refine And.intro it ?_
      (repeat refine gp_gc [23, 53, 58, 94, 145] od_Rf_agrees rfl rfl ?_)
      exact k53 _ (show w 137 t.toNatClampNeg = nI (tl tN) by rw [ct]; exact L1)
    | succ r ih =>
      intro j f hj hf
      have cj : (nI j).toNatClampNeg = j := nI_clamp (by omega)
      refine gp_go od_Rf_agrees rfl ?_
      (repeat refine gp_gc [23, 58, 94, 145] od_Rf_agrees rfl rfl ?_)
      refine gb_ge_f (show ¬ w 95 2 ≤ nI j by rw [hm.1]; exact nI_ge (by omega) (by omega)) ?_
      (repeat refine gp_gc [23, 58, 94, 145] od_Rf_agrees rfl rfl ?_)
      refine And.intro (vp_in_nI (by omega) (by decide)) ?_
      (repeat refine gp_gc [23, 58, 94, 145] od_Rf_agrees rfl rfl ?_)
      refine And.intro (vp_in_nI (by omega) (by decide)) ?_
      (repeat refine gp_gc [23, 58, 94, 145] od_Rf_agrees rfl rfl ?_)
      rw [cj, gp_inc (i := j) rfl]
      refine ih (j + 1) (upd f j (w 105 j)) (by omega) (fun i hi => ?_)
      by_cases e : i = j
      · subst e
        exact pk_us
      · exact (pk_un e).trans (hf i (by omega))
  have k0 := keep n 0 (w 140) (by omega) (fun i hi => by omega)
  rw [gr_self] at k0
  exact k0
end

end
