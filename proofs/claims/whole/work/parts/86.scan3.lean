section
variable {l : Launch} {G : gp_G} {d : Nat} {w : Nat → Nat → Int32} {u : Int64 × (Nat → Int64)} {q : Nat → Nat} {K : Option Value → gp_H → Prop}
/-! ===== the class's parser: scan ===== -/
def gcx_K (W : Nat → Nat → Int32) (tp : Nat → Nat) (n t : Nat) : Prop := ∀ j, j < t → W 57 j = nI (gx_kd tp n j) ∧ (gx_kd tp n j = 30 → W 58 j = nI (gx_nu tp n j)) ∧ W 59 j = nI (gx_sp tp n j)
def gcx_Q (w W : Nat → Nat → Int32) : Prop := (∀ b, b ≠ 55 → b ≠ 57 → b ≠ 58 → b ≠ 59 → W b = w b) ∧ ∀ k, k ≠ 5 → W 55 k = w 55 k
theorem gcx_Q_add {w W : Nat → Nat → Int32} {t : Nat} {a b c x : Int32} (h : gcx_Q w W) : gcx_Q w (gw (gw (gw (gw W 57 t a) 58 t b) 59 t c) 55 5 x) :=
  ⟨fun y h1 h2 h3 h4 => by rw [gw_ne h1, gw_ne h4, gw_ne h3, gw_ne h2]; exact h.1 y h1 h2 h3 h4, fun k hk => by
    rw [gw_at, if_neg hk]
    exact h.2 k hk⟩
theorem gcx_K_add {W : Nat → Nat → Int32} {tp : Nat → Nat} {n t : Nat} {a b c x : Int32} (h : gcx_K W tp n t) (h1 : a = nI (gx_kd tp n t)) (h2 : gx_kd tp n t = 30 → b = nI (gx_nu tp n t)) (h3 : c = nI (gx_sp tp n t)) : gcx_K (gw (gw (gw (gw W 57 t a) 58 t b) 59 t c) 55 5 x) tp n (t + 1) := by
  intro j hj
  show upd (W 57) t a j = _ ∧ (_ → upd (W 58) t b j = _) ∧ upd (W 59) t c j = _
  by_cases e : j = t
  · rw [e, pk_us, pk_us, pk_us]
    exact ⟨h1, h2, h3⟩
  · rw [pk_un e, pk_un e, pk_un e]
    exact h j (by omega)
section
variable {tp : Nat → Nat} {n : Nat}
theorem gcx_T_Q {W : Nat → Nat → Int32} (h : gcx_Q w W) (T : gcx_T w tp n) : gcx_T W tp n := ⟨by rw [h.2 4 (by decide)]; exact T.1, T.2.1, fun i hi => by rw [h.1 56 (by decide) (by decide) (by decide) (by decide)]; exact T.2.2 i hi⟩
set_option maxRecDepth 100000 in
theorem sp_Pa_scan (T : gcx_T w tp n) (h : ∀ W t, gcx_Q w W → W 55 5 = nI (t + 1) → t ≤ 500 → gcx_K W tp n (t + 1) → gx_kd tp n t = 31 → (∀ j, j < t → gx_kd tp n j ≠ 31) → K none (gv W u q)) : gp_Cal l G (d + 8) m_Pa_scan [.ref 55] (gv w u q) K := by
  refine gp_enter od_Pa_scan rfl ?_
  have hn := T.2.1
  have loop : ∀ (r i P j : Nat) (W : Nat → Nat → Int32), i + r = n → i ≤ P → P ≤ n → j ≤ P → gcx_Q w W → W 55 5 = nI j → gcx_K W tp n j → (∀ k, k < j → gx_kd tp n k ≠ 31) → gx_s tp n (gx_p tp n j) = gx_s tp n P → gp_Go l G (d + 8) m_Pa_scan K 9 [some (.ref 55), some (.int (nI P)), some (.int (nI i))] [] (gv W u q) 0 0 := by
    intro r
    induction r with
    | zero =>
      intro i P j W hi hiP hPn hjP hQ e5 hK hne hs
      have TW := gcx_T_Q hQ T
      have eP : P = n := by omega
      have es : gx_s tp n n = n := by
        unfold gx_s
        rw [Nat.sub_self]
        rfl
      rw [eP, es] at hs
      have k31 : gx_kd tp n j = 31 := (gx_k_b tp n _).2.mpr (by rw [hs]; exact Nat.le_refl _)
      refine gp_go od_Pa_scan rfl ?_
      (repeat refine gp_gc [9] od_Pa_scan rfl rfl ?_)
      refine gb_ge_t (by rw [TW.1]; exact nI_le (by omega) (by omega)) ?_
      (repeat refine gp_gc [9] od_Pa_scan rfl rfl ?_)
      refine sp_Pa_addToken (d := d + 7) (w := W) (t := j) e5 (by omega) ?_
      (repeat refine gp_gc [9] od_Pa_scan rfl rfl ?_)
      refine h _ j (gcx_Q_add hQ) rfl (by omega) (gcx_K_add hK (by rw [k31]; rfl) (fun z => by rw [k31] at z; exact absurd z (by decide)) ?_) k31 hne
      show W 55 4 = _
      rw [TW.1]
      unfold gx_sp
      rw [hs]
    | succ r ih =>
      intro i P j W hi hiP hPn hjP hQ e5 hK hne hs
      have TW := gcx_T_Q hQ T
      have inc : nI i + Int32.ofInt 1 = nI (i + 1) := gp_inc rfl
      refine gp_go od_Pa_scan rfl ?_
      (repeat refine gp_gc [9] od_Pa_scan rfl rfl ?_)
      refine gb_ge_f (by rw [TW.1]; exact nI_ge (by omega) (by omega)) ?_
      (repeat refine gp_gc [9] od_Pa_scan rfl rfl ?_)
      by_cases c : i = P
      rotate_left
      · refine gb_ne_t (fun z => c ((nI_eq (by omega) (by omega)).mp z)) ?_
        (repeat refine gp_gc [9] od_Pa_scan rfl rfl ?_)
        rw [inc]
        exact ih (i + 1) P j W (by omega) (by omega) hPn hjP hQ e5 hK hne hs
      subst c
      have eb := gcx_e_b (tp := tp) (n := n) (p := i) (by omega)
      refine gb_ne_f rfl ?_
      (repeat refine gp_gc [9] od_Pa_scan rfl rfl ?_)
      refine sp_Pa_runEnd (d := d + 6) (w := W) TW rfl (by omega) ?_
      (repeat refine gp_gc [9] od_Pa_scan rfl rfl ?_)
      refine sp_Pa_scanRun (d := d) (w := W) (t := j) TW (by omega) e5 (by omega) (fun bl => ?_) (fun nb v hv => ?_)
      · -- a blank
        have e1 : gcx_e tp n i = i + 1 := by
          unfold gcx_e
          have q : tp i = 32 ∨ tp i = 10 := by
            unfold gx_bl at bl
            rw [Bool.or_eq_true, beq_iff_eq, beq_iff_eq] at bl
            exact bl
          have n1 : ¬ gx_le (tp i) = true := by unfold gx_le; rw [decide_eq_true_iff]; omega
          have n2 : ¬ gx_di (tp i) = true := by unfold gx_di; rw [decide_eq_true_iff]; omega
          rw [if_neg n1, if_neg n2]
        (repeat refine gp_gc [9] od_Pa_scan rfl rfl ?_)
        rw [inc]
        refine ih (i + 1) (gcx_e tp n i) j W (by omega) (by omega) eb.2 (by omega) hQ e5 hK hne ?_
        rw [hs, e1]
        exact gx_run_1 (by omega) bl
      · -- a token
        have ei : gx_s tp n i = i := by
          unfold gx_s
          rw [show n - i = (n - i - 1) + 1 by omega]
          exact if_neg (by rw [nb]; decide)
        rw [ei] at hs
        have en : ¬ n ≤ i := by omega
        have ee : gx_e tp n (gx_p tp n j) = gcx_e tp n i := by
          unfold gx_e gcx_e
          rw [hs, if_neg en]
        have ek : gx_kd tp n j = gcx_k tp n i := by
          unfold gx_kd gx_k gcx_k
          rw [hs, ee, if_neg en]
        have ev : gx_nu tp n j = gx_nm tp (gcx_e tp n i - i) i 0 := by
          unfold gx_nu gx_v
          rw [ee, hs]
        have k31 : gx_kd tp n j ≠ 31 := fun z => en (by have := (gx_k_b tp n (gx_p tp n j)).2.mp z; rw [hs] at this; exact this)
        (repeat refine gp_gc [9] od_Pa_scan rfl rfl ?_)
        rw [inc]
        refine ih (i + 1) (gcx_e tp n i) (j + 1) _ (by omega) (by omega) eb.2 (by omega) (gcx_Q_add hQ) rfl (gcx_K_add hK (by rw [ek]) (fun z => by rw [ev]; exact hv (by rw [← ek]; exact z)) (by unfold gx_sp; rw [hs])) (lt_s hne k31) ?_
        show gx_s tp n (gx_e tp n (gx_p tp n j)) = _
        rw [ee]
  (repeat refine gp_gc [9] od_Pa_scan rfl rfl ?_)
  refine loop n 0 0 0 (gw w 55 5 0) (by omega) (by omega) (by omega) (by omega) ⟨fun b h1 _ _ _ => gw_ne h1, fun k hk => by rw [gw_at, if_neg hk]⟩ rfl (fun j hj => absurd hj (by omega)) (fun k hk => absurd hk (by omega)) rfl
end

end
