section
variable {l : Launch} {G : gp_G} {d : Nat} {w : Nat → Nat → Int32} {u : Int64 × (Nat → Int64)} {q : Nat → Nat} {K : Option Value → gp_H → Prop}
/-! ===== the reference's methods: findsWidths ===== -/
theorem gf_edges_congr {w W : Nat → Nat → Int32} (h1 : W 126 = w 126) (h2 : W 109 = w 109) (k wd : Int32) (a b : Nat) : gf_edges W k wd a b = gf_edges w k wd a b := by
  have e1 : gf_laid W k wd = gf_laid w k wd := by
    funext y x
    unfold gf_laid
    rw [h1, h2]
  have e2 : gf_edR W k wd a = gf_edR w k wd a := by
    funext i n
    unfold gf_edR
    refine gp_it_congr (fun j _ _ => ?_)
    funext n
    unfold gf_edS
    rw [e1]
  unfold gf_edges
  rw [e2]
theorem gf_try_R {w W : Nat → Nat → Int32} {kn : Nat} {TL : Option gf_L} (h : gs_R w W) (hT : gf_try w kn TL) : gf_try W kn TL := by
  cases TL with
  | none =>
    show W 122 kn = 0
    rw [h.1 122 rfl (by decide) (by decide)]
    exact hT
  | some L =>
    unfold gf_try at hT ⊢
    simp only at hT ⊢
    rw [h.1 122 rfl (by decide) (by decide), h.1 112 rfl (by decide) (by decide), h.1 113 rfl (by decide) (by decide), h.1 117 rfl (by decide) (by decide)]
    exact hT
abbrev gq_st : Type := Nat × (Nat → Int32) × (Nat → Int32)
def gq_pos (R : Nat → Int32) (v : Int32) : Nat → Nat
  | 0 => 0
  | i + 1 => if v < R i then gq_pos R v i else i + 1
theorem gq_pos_le {R : Nat → Int32} {v : Int32} : ∀ i, gq_pos R v i ≤ i
  | 0 => Nat.le_refl 0
  | i + 1 => by
    unfold gq_pos
    split
    · have := gq_pos_le (R := R) (v := v) i
      omega
    · exact Nat.le_refl _
def gq_put (R : Nat → Int32) (p : Nat) (v : Int32) (j : Nat) : Int32 := if j < p then R j else if j = p then v else R (j - 1)
def gq_ins (s : gq_st) (v x : Int32) : gq_st := (s.1 + 1, gq_put s.2.1 (gq_pos s.2.1 v s.1) v, gq_put s.2.2 (gq_pos s.2.1 v s.1) x)
def gq_f (N : Nat) (rk : Nat → Int32) (a : Nat) (s : gq_st) : gq_st := if N % a = 0 then gq_ins s (rk a) (nI a) else s
def gq_all (N : Nat) (rk : Nat → Int32) (m : Nat) : gq_st := gp_it (gq_f N rk) 2 m (0, (fun _ => 0), (fun _ => 0))
def gf_rkN (w : Nat → Nat → Int32) (k : Int32) (N : Nat) (TL : Option gf_L) (a : Nat) : Int32 := gf_rk (gf_edges w k (nI a) a (N / a)) a (N / a) TL
section
variable {k : Int32} {kn N : Nat} {TL : Option gf_L}
set_option maxRecDepth 100000 in
theorem sp_Rf_findsWidths (ek : k = nI kn) (hk : kn < 7) (eN : w 95 50 = nI N) (hN : N ≤ 400) (hT : gf_try w kn TL) (h : ∀ W s, s = gq_all N (gf_rkN w k N TL) (N - 2) → s.1 ≤ 400 → gs_R w W → W 95 56 = nI s.1 → (∀ j, j < s.1 → W 128 j = s.2.2 j) → K none (gv W u q)) : gp_Cal l G (d + 3) m_Rf_findsWidths [.ref 95, .int k] (gv w u q) K := by
  refine gp_enter od_Rf_findsWidths rfl ?_
  have main : ∀ (r a : Nat) (s : gq_st) (W : Nat → Nat → Int32), a + r = N ∨ (N < a ∧ r = 0 ∧ a = 2) → 2 ≤ a → s.1 + 2 ≤ a → gp_it (gq_f N (gf_rkN w k N TL)) a r s = gq_all N (gf_rkN w k N TL) (N - 2) → gs_R w W → W 95 56 = nI s.1 → (∀ j, j < s.1 → W 129 j = s.2.1 j ∧ W 128 j = s.2.2 j) → gp_Go l G (d + 3) m_Rf_findsWidths K 7 [some (.ref 95), some (.int k), some (.int (nI a)), none, none] [] (gv W u q) 0 0 := by
    intro r
    induction r with
    | zero =>
      intro a s W har ha2 hsa e hW h56 hrow
      have e : s = gq_all N (gf_rkN w k N TL) (N - 2) := e
      refine gp_go od_Rf_findsWidths rfl ?_
      (repeat refine gp_gc [7, 39] od_Rf_findsWidths rfl rfl ?_)
      refine gb_ge_t (show W 95 50 ≤ nI a by rw [hW.2.1 50 rfl, eN]; exact nI_le (by omega) (by omega)) ?_
      (repeat refine gp_gc [7, 39] od_Rf_findsWidths rfl rfl ?_)
      exact h W s e (by omega) hW h56 (fun j hj => (hrow j hj).2)
    | succ r ih =>
      intro a s W har ha2 hsa e hW h56 hrow
      have haN : a < N := by omega
      have e : gp_it (gq_f N (gf_rkN w k N TL)) (a + 1) r (gq_f N (gf_rkN w k N TL) a s) = gq_all N (gf_rkN w k N TL) (N - 2) := e
      have WN : W 95 50 = nI N := by rw [hW.2.1 50 rfl, eN]
      have inc : nI a + Int32.ofInt 1 = nI (a + 1) := gp_inc rfl
      refine gp_go od_Rf_findsWidths rfl ?_
      (repeat refine gp_gc [7, 39] od_Rf_findsWidths rfl rfl ?_)
      refine gb_ge_f (show ¬ W 95 50 ≤ nI a by rw [WN]; exact nI_ge haN (by omega)) ?_
      (repeat refine gp_gc [7, 39] od_Rf_findsWidths rfl rfl ?_)
      refine sp_Rf_isWidth (d := d + 2) (fun c1 c2 c3 => ?_) (fun n2 => ?_)
      rotate_left
      · have hm : ¬ N % a = 0 := by
          intro z
          refine n2 ⟨nI_lt (a := 1) (by omega) (by omega), by rw [WN]; exact nI_lt haN (by omega), ?_⟩
          rw [WN, pk_rem (by omega) (by omega) (by omega), z]
          rfl
        have x1 : gq_f N (gf_rkN w k N TL) a s = s := if_neg hm
        rw [x1] at e
        (repeat refine gp_gc [7, 39] od_Rf_findsWidths rfl rfl ?_)
        refine gb1_ne_f rfl ?_
        (repeat refine gp_gc [7, 39] od_Rf_findsWidths rfl rfl ?_)
        rw [inc]
        exact ih (a + 1) s W (by omega) (by omega) (by omega) e hW h56 hrow
      have hmod : N % a = 0 := by
        rw [WN, pk_rem (by omega) (by omega) (by omega)] at c3
        exact (nI_eq (b := 0) (by have := Nat.mod_lt N (show 0 < a by omega); omega) (by decide)).mp c3
      have hNab : N = a * (N / a) := (Nat.mul_div_cancel' (Nat.dvd_of_mod_eq_zero hmod)).symm
      have hb0 : 0 < N / a := Nat.div_pos (by omega) (by omega)
      have x1 : gq_f N (gf_rkN w k N TL) a s = gq_ins s (gf_rkN w k N TL a) (nI a) := if_pos hmod
      rw [x1] at e
      (repeat refine gp_gc [7, 39] od_Rf_findsWidths rfl rfl ?_)
      refine gb1_ne_t (by decide) ?_
      (repeat refine gp_gc [7, 39] od_Rf_findsWidths rfl rfl ?_)
      refine sp_Rf_triedAs (d := d) (kn := kn) (a := a) (b := N / a) (TL := TL) ek hk rfl (by rw [← hNab]; exact WN) (by rw [← hNab]; exact hN) (by omega) hb0 (gf_try_R hW hT) (fun f g => ?_)
      have erk : gf_rk (gf_edges W k (nI a) a (N / a)) a (N / a) TL = gf_rkN w k N TL a := by
        unfold gf_rkN
        rw [gf_edges_congr (hW.1 126 rfl (by decide) (by decide)) (hW.1 109 rfl (by decide) (by decide))]
      rw [erk]
      obtain ⟨v, ev⟩ : ∃ v, v = gf_rkN w k N TL a := ⟨_, rfl⟩
      rw [← ev]
      rw [← ev] at e
      have hW2 : gs_R w (gf_tW W f g) := gs_gr (gs_gr hW rfl) rfl
      have loop : ∀ (i : Nat) (R X : Nat → Int32), i ≤ s.1 → gq_pos s.2.1 v s.1 = gq_pos s.2.1 v i → (∀ j, j < i → R j = s.2.1 j ∧ X j = s.2.2 j) → (∀ j, i < j → j ≤ s.1 → R j = s.2.1 (j - 1) ∧ X j = s.2.2 (j - 1)) → gp_Go l G (d + 3) m_Rf_findsWidths K 39 [some (.ref 95), some (.int k), some (.int (nI a)), some (.int v), some (.int (nI i))] [] (gv (gr (gr (gf_tW W f g) 129 R) 128 X) u q) 0 0 := by
        have done : ∀ (i : Nat) (R X : Nat → Int32), i ≤ s.1 → gq_pos s.2.1 v s.1 = i → (∀ j, j < i → R j = s.2.1 j ∧ X j = s.2.2 j) → (∀ j, i < j → j ≤ s.1 → R j = s.2.1 (j - 1) ∧ X j = s.2.2 (j - 1)) → gp_Go l G (d + 3) m_Rf_findsWidths K 95 [some (.ref 95), some (.int k), some (.int (nI a)), some (.int v), some (.int (nI i))] [] (gv (gr (gr (gf_tW W f g) 129 R) 128 X) u q) 0 0 := by
          intro i R X hi ep h1 h2
          have ci : (nI i).toNatClampNeg = i := nI_clamp (by omega)
          have k118 : ∀ y : Int32, y = nI (s.1 + 1) → gp_Go l G (d + 3) m_Rf_findsWidths K 118 [some (.ref 95), some (.int k), some (.int (nI a)), some (.int v), some (.int (nI i))] [.int y, .ref 95] (gv (gr (gr (gf_tW W f g) 129 (upd R i v)) 128 (upd X i (nI a))) u q) 0 0 := by
            intro y ey
            refine gp_go od_Rf_findsWidths rfl ?_
            (repeat refine gp_gc [7, 39] od_Rf_findsWidths rfl rfl ?_)
            rw [inc]
            refine gp_drop 3 ?_
            refine gp_drop 4 ?_
            refine ih (a + 1) (gq_ins s v (nI a)) (gw (gr (gr (gf_tW W f g) 129 (upd R i v)) 128 (upd X i (nI a))) 95 56 y) (by omega) (by omega) (by show s.1 + 1 + 2 ≤ a + 1; omega) e (gs_95 (gs_gr (gs_gr hW2 rfl) rfl) rfl) ey (fun j hj => ?_)
            have hj : j < s.1 + 1 := hj
            show upd R i v j = gq_put s.2.1 (gq_pos s.2.1 v s.1) v j ∧ upd X i (nI a) j = gq_put s.2.2 (gq_pos s.2.1 v s.1) (nI a) j
            rw [ep]
            unfold gq_put
            by_cases c : j = i
            · subst c
              rw [pk_us, pk_us, if_neg (Nat.lt_irrefl j), if_pos rfl, if_neg (Nat.lt_irrefl j), if_pos rfl]
              exact ⟨rfl, rfl⟩
            · rw [pk_un c, pk_un c]
              by_cases c2 : j < i
              · rw [if_pos c2, if_pos c2]
                exact h1 j c2
              · rw [if_neg c2, if_neg c2, if_neg c, if_neg c]
                exact h2 j (by omega) (by omega)
          refine gp_go od_Rf_findsWidths rfl ?_
          (repeat refine gp_gc [7, 39, 118] od_Rf_findsWidths rfl rfl ?_)
          refine And.intro (vp_in_nI (by omega) (by decide)) ?_
          (repeat refine gp_gc [7, 39, 118] od_Rf_findsWidths rfl rfl ?_)
          refine And.intro (vp_in_nI (by omega) (by decide)) ?_
          (repeat refine gp_gc [7, 39, 118] od_Rf_findsWidths rfl rfl ?_)
          rw [ci]
          exact k118 _ (show W 95 56 + 1 = nI (s.1 + 1) by rw [h56, nI_1])
        intro i
        induction i with
        | zero =>
          intro R X hi ep h1 h2
          refine gp_go od_Rf_findsWidths rfl ?_
          (repeat refine gp_gc [7, 39, 95] od_Rf_findsWidths rfl rfl ?_)
          refine gb1_le_t (by decide) ?_
          (repeat refine gp_gc [7, 39, 95] od_Rf_findsWidths rfl rfl ?_)
          exact done 0 R X hi ep h1 h2
        | succ i ih2 =>
          intro R X hi ep h1 h2
          have ep : gq_pos s.2.1 v s.1 = (if v < s.2.1 i then gq_pos s.2.1 v i else i + 1) := ep
          have e1 : nI (i + 1) - 1 = nI i := nI_pred i
          have c1 : (nI (i + 1) - 1).toNatClampNeg = i := by rw [e1]; exact nI_clamp (by omega)
          have v1 : vp_in (nI (i + 1) - 1) 400 := by rw [e1]; exact vp_in_nI (by omega) (by decide)
          have v2 : vp_in (nI (i + 1)) 400 := vp_in_nI (by omega) (by decide)
          have c2 : (nI (i + 1)).toNatClampNeg = i + 1 := nI_clamp (by omega)
          refine gp_go od_Rf_findsWidths rfl ?_
          (repeat refine gp_gc [7, 39, 95] od_Rf_findsWidths rfl rfl ?_)
          refine gb1_le_f (nI_nle (by omega) (by omega)) ?_
          (repeat refine gp_gc [7, 39, 95] od_Rf_findsWidths rfl rfl ?_)
          refine And.intro v1 ?_
          (repeat refine gp_gc [7, 39, 95] od_Rf_findsWidths rfl rfl ?_)
          have hR : R (nI (i + 1) - 1).toNatClampNeg = s.2.1 i := by rw [c1]; exact (h1 i (by omega)).1
          by_cases c : v < s.2.1 i
          · rw [if_pos c] at ep
            refine gb_le_f (show ¬ R (nI (i + 1) - 1).toNatClampNeg ≤ v by rw [hR]; exact Int32.not_le.mpr c) ?_
            (repeat refine gp_gc [7, 39, 95] od_Rf_findsWidths rfl rfl ?_)
            refine And.intro v1 ?_
            (repeat refine gp_gc [7, 39, 95] od_Rf_findsWidths rfl rfl ?_)
            refine And.intro v2 ?_
            (repeat refine gp_gc [7, 39, 95] od_Rf_findsWidths rfl rfl ?_)
            refine And.intro v1 ?_
            (repeat refine gp_gc [7, 39, 95] od_Rf_findsWidths rfl rfl ?_)
            refine And.intro v2 ?_
            (repeat refine gp_gc [7, 39, 95] od_Rf_findsWidths rfl rfl ?_)
            rw [c2, show (nI (i + 1) - Int32.ofInt 1).toNatClampNeg = i from c1, show nI (i + 1) + Int32.ofInt (-1) = nI i from pk_m1 i]
            refine ih2 (upd R (i + 1) (R i)) (upd X (i + 1) (X i)) (by omega) ep (fun j hj => ?_) (fun j hj hj2 => ?_)
            · rw [pk_un (by omega), pk_un (by omega)]
              exact h1 j (by omega)
            · by_cases e2 : j = i + 1
              · subst e2
                rw [pk_us, pk_us]
                exact h1 i (by omega)
              · rw [pk_un e2, pk_un e2]
                exact h2 j (by omega) hj2
          · rw [if_neg c] at ep
            refine gb_le_t (show R (nI (i + 1) - 1).toNatClampNeg ≤ v by rw [hR]; exact Int32.not_lt.mp c) ?_
            (repeat refine gp_gc [7, 39, 95] od_Rf_findsWidths rfl rfl ?_)
            exact done (i + 1) R X hi ep h1 h2
      (repeat refine gp_gc [7, 39] od_Rf_findsWidths rfl rfl ?_)
      have l0 := loop s.1 (W 129) (W 128) (Nat.le_refl _) rfl (fun j hj => hrow j hj) (fun j hj hj2 => by omega)
      rw [show gr (gr (gf_tW W f g) 129 (W 129)) 128 (W 128) = gf_tW W f g by rw [show gr (gf_tW W f g) 129 (W 129) = gf_tW W f g from gr_self (gf_tW W f g) 129]; exact gr_self (gf_tW W f g) 128, ← h56] at l0
      exact l0
  (repeat refine gp_gc [7, 39] od_Rf_findsWidths rfl rfl ?_)
  refine main (N - 2) 2 (0, (fun _ => 0), (fun _ => 0)) (gw w 95 56 0) ?_ (by decide) (Nat.le_refl 2) rfl (gs_95 (gs_refl w) rfl) rfl (fun j hj => absurd hj (Nat.not_lt_zero j))
  by_cases c : 2 ≤ N
  · exact Or.inl (by omega)
  · exact Or.inr ⟨by omega, by omega, rfl⟩
set_option maxRecDepth 100000 in
theorem sp_Rf_widths {what : Int32} {TLf : Nat → Option gf_L} (eN : w 95 50 = nI N) (hN : N ≤ 400) (hT : ∀ kn, kn < 6 → gf_try w kn (TLf kn)) (h1 : ∀ kn W s, k = nI kn → kn < 6 → 0 ≤ what → s = gq_all N (gf_rkN w k N (TLf kn)) (N - 2) → gs_R w W → K (some (.int (if what = 0 then nI s.1 else if what ≤ nI s.1 then s.2.2 (what - 1).toNatClampNeg else -1))) (gv W u q)) (h0 : ¬ ((0 ≤ k ∧ k ≤ 5) ∧ 0 ≤ what) → K (some (.int (-1))) (gv w u q)) : gp_Cal l G (d + 4) m_Rf_widths [.ref 95, .int k, .int what] (gv w u q) K := by
  refine gp_enter od_Rf_widths rfl ?_
  (repeat refine gp_gc [] od_Rf_widths rfl rfl ?_)
  refine sp_Rf_isMind (fun a1 b1 => ?_) (fun n1 => ?_)
  rotate_left
  · repeat refine gp_gc [] od_Rf_widths rfl rfl ?_
    first | refine And.intro (fun _ => ?_) (fun c => absurd rfl c) | refine And.intro (fun c => absurd rfl c) (fun _ => ?_)
    repeat refine gp_gc [] od_Rf_widths rfl rfl ?_
    exact h0 (fun z => n1 z.1)
  repeat refine gp_gc [] od_Rf_widths rfl rfl ?_
  first | refine And.intro (fun c => absurd c (by decide)) (fun _ => ?_) | refine And.intro (fun _ => ?_) (fun c => absurd c (by decide))
  repeat refine gp_gc [] od_Rf_widths rfl rfl ?_
  by_cases b2 : 0 ≤ what
  rotate_left
  · refine gb1_ge_f b2 ?_
    (repeat refine gp_gc [] od_Rf_widths rfl rfl ?_)
    exact h0 (fun z => b2 z.2)
  refine gb1_ge_t b2 ?_
  (repeat refine gp_gc [] od_Rf_widths rfl rfl ?_)
  obtain ⟨kn, hkn, ek⟩ := nI_of2 (n := 5) (M := 5) rfl (Int32.not_lt.mpr a1) b1
  refine sp_Rf_findsWidths (d := d) ek (show kn < 7 by omega) eN hN (hT kn (by omega)) (fun W s es hs hW h56 h128 => ?_)
  have h1 := h1 kn W s ek (by omega) b2 es hW
  rw [← h56] at h1
  (repeat refine gp_gc [] od_Rf_widths rfl rfl ?_)
  by_cases c1 : what = 0
  · rw [if_pos c1] at h1
    refine gb1_ne_f c1 ?_
    (repeat refine gp_gc [] od_Rf_widths rfl rfl ?_)
    exact h1
  rw [if_neg c1] at h1
  refine gb1_ne_t c1 ?_
  (repeat refine gp_gc [] od_Rf_widths rfl rfl ?_)
  by_cases c2 : what ≤ W 95 56
  rotate_left
  · rw [if_neg c2] at h1
    refine gb_gt_t' c2 ?_
    (repeat refine gp_gc [] od_Rf_widths rfl rfl ?_)
    exact h1
  rw [if_pos c2] at h1
  refine gb_gt_f' c2 ?_
  (repeat refine gp_gc [] od_Rf_widths rfl rfl ?_)
  have c3 : what ≤ nI s.1 := by rw [← h56]; exact c2
  obtain ⟨x, hx, ex⟩ := nI_of2 (n := s.1) (M := nI s.1) (nI_toInt (by omega)) (Int32.not_lt.mpr b2) c3
  have hx0 : x ≠ 0 := fun z => c1 (by rw [ex, z]; rfl)
  have e1 : what - 1 = nI (x - 1) := by rw [ex]; exact pk_sub (b := 1) (by omega)
  have c4 : (what - 1).toNatClampNeg = x - 1 := by rw [e1]; exact nI_clamp (by omega)
  refine And.intro (show vp_in (what - 1) 400 by rw [e1]; exact vp_in_nI (by omega) (by decide)) ?_
  (repeat refine gp_gc [] od_Rf_widths rfl rfl ?_)
  rw [show (what - Int32.ofInt 1).toNatClampNeg = x - 1 from c4, h128 (x - 1) (by omega)]
  rw [c4] at h1
  exact h1
end

end
