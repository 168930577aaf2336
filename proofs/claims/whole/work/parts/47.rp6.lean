section
variable {l : Launch} {G : gp_G} {d : Nat} {w : Nat → Nat → Int32} {u : Int64 × (Nat → Int64)} {q : Nat → Nat} {K : Option Value → gp_H → Prop}
/-! ===== the reference's methods: a mind is taken over ===== -/
/-- mind k of W is what mind 6 of w was; the others stay -/
def gm_tk (w W : Nat → Nat → Int32) (k : Nat) : Prop := (∀ b, (107 ≤ b ∧ b ≤ 113) ∨ b = 121 ∨ b = 122 → W b k = w b 6 ∧ ∀ x, x ≠ k → W b x = w b x) ∧ (∀ b, 114 ≤ b → b ≤ 116 → (∀ i, i < 16 → W b (16 * k + i) = w b (96 + i)) ∧ ∀ x, x < 16 * k ∨ 16 * k + 16 ≤ x → W b x = w b x) ∧ ((∀ i, i < 1020 → W 117 (1020 * k + i) = w 117 (6120 + i)) ∧ ∀ x, x < 1020 * k ∨ 1020 * k + 1020 ≤ x → W 117 x = w 117 x) ∧ ∀ b, b < 107 ∨ 122 < b ∨ (117 < b ∧ b < 121) → W b = w b
def gm_a (w : Nat → Nat → Int32) (k : Nat) : Nat → Nat → Int32 := gw (gw (gw (gw (gw (gw (gw (gw (gw w 107 k (w 107 6)) 108 k (w 108 6)) 109 k (w 109 6)) 110 k (w 110 6)) 111 k (w 111 6)) 121 k (w 121 6)) 122 k (w 122 6)) 112 k (w 112 6)) 113 k (w 113 6)
set_option maxRecDepth 100000 in
theorem sp_Rf_takesMind {k : Nat} (hk : k < 6) (h7 : w 121 6 = 0 ∨ w 121 6 = 1) (h8 : w 122 6 = 0 ∨ w 122 6 = 1) (h : ∀ W, gm_tk w W k → K none (gv W u q)) : gp_Cal l G d m_Rf_takesMind [.ref 95, .int (nI k), .int 6] (gv w u q) K := by
  have i6 : vp_in (nI 6) 7 := vp_in_nI (by decide) (by decide)
  have ik : vp_in (nI k) 7 := vp_in_nI (by omega) (by decide)
  have ck : (nI k).toNatClampNeg = k := nI_clamp (by omega)
  have n7 : vp_nar .boolean (w 121 6) = w 121 6 := by rcases h7 with e | e <;> rw [e] <;> rfl
  have n8 : vp_nar .boolean (w 122 6) = w 122 6 := by rcases h8 with e | e <;> rw [e] <;> rfl
  have lo2 : ∀ (r i : Nat) (W : Nat → Nat → Int32), i + r = 1020 → (∀ x, x < i → W 117 (1020 * k + x) = w 117 (6120 + x)) → (∀ x, x < 1020 * k ∨ 1020 * k + i ≤ x → W 117 x = w 117 x) → (∀ X, (∀ b, b ≠ 117 → X b = W b) → (∀ x, x < 1020 → X 117 (1020 * k + x) = w 117 (6120 + x)) → (∀ x, x < 1020 * k ∨ 1020 * k + 1020 ≤ x → X 117 x = w 117 x) → K none (gv X u q)) → gp_Go l G d m_Rf_takesMind K 190 [some (.ref 95), some (.int (nI k)), some (.int 6), some (.int (nI i))] [] (gv W u q) 0 0 := by
    intro r
    induction r with
    | zero =>
      intro i W hi a1 a2 h
      obtain rfl : i = 1020 := by omega
      refine gp_go od_Rf_takesMind rfl ?_
      (repeat refine gp_gc [110, 190] od_Rf_takesMind rfl rfl ?_)
      refine gb_ge_t (by decide) ?_
      (repeat refine gp_gc [110, 190] od_Rf_takesMind rfl rfl ?_)
      exact h W (fun _ _ => rfl) a1 a2
    | succ r ih =>
      intro i W hi a1 a2 h
      have x1 : nI 1020 * nI k + nI i = nI (1020 * k + i) := by rw [pk_mul, nI_add]
      have x2 : nI 1020 * nI 6 + nI i = nI (6120 + i) := by rw [pk_mul, nI_add]
      have c1 : (nI (1020 * k + i)).toNatClampNeg = 1020 * k + i := nI_clamp (by omega)
      have c2 : (nI (6120 + i)).toNatClampNeg = 6120 + i := nI_clamp (by omega)
      refine gp_go od_Rf_takesMind rfl ?_
      (repeat refine gp_gc [110, 190] od_Rf_takesMind rfl rfl ?_)
      refine gb_ge_f (show ¬ nI 1020 ≤ nI i from nI_ge (by omega) (by decide)) ?_
      (repeat refine gp_gc [110, 190] od_Rf_takesMind rfl rfl ?_)
      refine And.intro (show vp_in (nI 1020 * nI 6 + nI i) 7140 by rw [x2]; exact vp_in_nI (by omega) (by decide)) ?_
      (repeat refine gp_gc [110, 190] od_Rf_takesMind rfl rfl ?_)
      refine And.intro (show vp_in (nI 1020 * nI k + nI i) 7140 by rw [x1]; exact vp_in_nI (by omega) (by decide)) ?_
      (repeat refine gp_gc [110, 190] od_Rf_takesMind rfl rfl ?_)
      rw [gp_inc (i := i) rfl]
      refine ih (i + 1) (gw W 117 (nI 1020 * nI k + nI i).toNatClampNeg (W 117 (nI 1020 * nI 6 + nI i).toNatClampNeg)) (by omega) ?_ ?_ ?_
      · rw [x1, x2, c1, c2]
        intro x hx
        rw [gw_at]
        by_cases e : x = i
        · subst e
          rw [if_pos rfl]
          exact a2 _ (by omega)
        · rw [if_neg (by omega)]
          exact a1 x (by omega)
      · rw [x1, x2, c1, c2]
        intro x hx
        rw [gw_at, if_neg (by omega)]
        exact a2 x (by omega)
      · intro X f1 f2 f3
        exact h X (fun b hb => (f1 b hb).trans (gw_ne hb)) f2 f3
  have lo1 : ∀ (r i : Nat) (W : Nat → Nat → Int32), i + r = 16 → (∀ b, b ≠ 114 → b ≠ 115 → b ≠ 116 → W b = gm_a w k b) → (∀ b, 114 ≤ b → b ≤ 116 → (∀ x, x < i → W b (16 * k + x) = w b (96 + x)) ∧ ∀ x, x < 16 * k ∨ 16 * k + i ≤ x → W b x = w b x) → gp_Go l G d m_Rf_takesMind K 110 [some (.ref 95), some (.int (nI k)), some (.int 6), some (.int (nI i))] [] (gv W u q) 0 0 := by
    intro r
    induction r with
    | zero =>
      intro i W hi a0 a1
      obtain rfl : i = 16 := by omega
      refine gp_go od_Rf_takesMind rfl ?_
      (repeat refine gp_gc [110, 190] od_Rf_takesMind rfl rfl ?_)
      refine gb_ge_t (by decide) ?_
      (repeat refine gp_gc [110, 190] od_Rf_takesMind rfl rfl ?_)
      have e7 : W 117 = w 117 := a0 117 (by decide) (by decide) (by decide)
      refine lo2 1020 0 W rfl (fun x hx => by omega) (fun x _ => by rw [e7]) (fun X f1 f2 f3 => h X ⟨?_, ?_, ⟨f2, f3⟩, ?_⟩)
      · intro b hb
        have hb' : b = 107 ∨ b = 108 ∨ b = 109 ∨ b = 110 ∨ b = 111 ∨ b = 112 ∨ b = 113 ∨ b = 121 ∨ b = 122 := by omega
        rw [f1 b (by omega), a0 b (by omega) (by omega) (by omega)]
        rcases hb' with rfl | rfl | rfl | rfl | rfl | rfl | rfl | rfl | rfl
        all_goals
          refine ⟨?_, fun x hx => ?_⟩
          · unfold gm_a
            simp [gw]
            exact pk_us
          · unfold gm_a
            simp [gw]
            exact pk_un hx
      · intro b b1 b2
        rw [f1 b (by omega)]
        exact a1 b b1 b2
      · intro b hb
        rw [f1 b (by omega), a0 b (by omega) (by omega) (by omega)]
        unfold gm_a
        rw [gw_ne (by omega), gw_ne (by omega), gw_ne (by omega), gw_ne (by omega), gw_ne (by omega), gw_ne (by omega), gw_ne (by omega), gw_ne (by omega), gw_ne (by omega)]
    | succ r ih =>
      intro i W hi a0 a1
      have x1 : nI 16 * nI k + nI i = nI (16 * k + i) := by rw [pk_mul, nI_add]
      have x2 : nI 16 * nI 6 + nI i = nI (96 + i) := by rw [pk_mul, nI_add]
      have c1 : (nI (16 * k + i)).toNatClampNeg = 16 * k + i := nI_clamp (by omega)
      have c2 : (nI (96 + i)).toNatClampNeg = 96 + i := nI_clamp (by omega)
      have v1 : vp_in (nI 16 * nI 6 + nI i) 112 := by rw [x2]; exact vp_in_nI (by omega) (by decide)
      have v2 : vp_in (nI 16 * nI k + nI i) 112 := by rw [x1]; exact vp_in_nI (by omega) (by decide)
      refine gp_go od_Rf_takesMind rfl ?_
      (repeat refine gp_gc [110, 190] od_Rf_takesMind rfl rfl ?_)
      refine gb_ge_f (show ¬ nI 16 ≤ nI i from nI_ge (by omega) (by decide)) ?_
      (repeat refine gp_gc [110, 190] od_Rf_takesMind rfl rfl ?_)
      refine And.intro v1 ?_
      (repeat refine gp_gc [110, 190] od_Rf_takesMind rfl rfl ?_)
      refine And.intro v2 ?_
      (repeat refine gp_gc [110, 190] od_Rf_takesMind rfl rfl ?_)
      refine And.intro v1 ?_
      (repeat refine gp_gc [110, 190] od_Rf_takesMind rfl rfl ?_)
      refine And.intro v2 ?_
      (repeat refine gp_gc [110, 190] od_Rf_takesMind rfl rfl ?_)
      refine And.intro v1 ?_
      (repeat refine gp_gc [110, 190] od_Rf_takesMind rfl rfl ?_)
      refine And.intro v2 ?_
      (repeat refine gp_gc [110, 190] od_Rf_takesMind rfl rfl ?_)
      rw [gp_inc (i := i) rfl]
      refine ih (i + 1) (gw (gw (gw W 114 (nI 16 * nI k + nI i).toNatClampNeg (W 114 (nI 16 * nI 6 + nI i).toNatClampNeg)) 115 (nI 16 * nI k + nI i).toNatClampNeg (W 115 (nI 16 * nI 6 + nI i).toNatClampNeg)) 116 (nI 16 * nI k + nI i).toNatClampNeg (W 116 (nI 16 * nI 6 + nI i).toNatClampNeg)) (by omega) ?_ ?_
      · intro b b1 b2 b3
        rw [gw_ne b3, gw_ne b2, gw_ne b1]
        exact a0 b b1 b2 b3
      · intro b b1 b2
        have hb : gw (gw (gw W 114 (nI 16 * nI k + nI i).toNatClampNeg (W 114 (nI 16 * nI 6 + nI i).toNatClampNeg)) 115 (nI 16 * nI k + nI i).toNatClampNeg (W 115 (nI 16 * nI 6 + nI i).toNatClampNeg)) 116 (nI 16 * nI k + nI i).toNatClampNeg (W 116 (nI 16 * nI 6 + nI i).toNatClampNeg) b = upd (W b) (16 * k + i) (W b (96 + i)) := by
          rw [x1, x2, c1, c2]
          rcases (show b = 114 ∨ b = 115 ∨ b = 116 by omega) with rfl | rfl | rfl <;> rfl
        obtain ⟨g1, g2⟩ := a1 b b1 b2
        rw [hb]
        refine ⟨fun x hx => ?_, fun x hx => ?_⟩
        · by_cases e : x = i
          · subst e
            rw [pk_us]
            exact g2 _ (by omega)
          · rw [pk_un (by omega)]
            exact g1 x (by omega)
        · rw [pk_un (by omega)]
          exact g2 x (by omega)
  have s108 : gp_Go l G d m_Rf_takesMind K 108 [some (.ref 95), some (.int (nI k)), some (.int 6), none] [] (gv (gw (gw (gw (gw (gw (gw (gw (gw (gw w 107 k (w 107 6)) 108 k (w 108 6)) 109 k (w 109 6)) 110 k (w 110 6)) 111 k (w 111 6)) 121 k (w 121 6)) 122 k (w 122 6)) 112 k (w 112 6)) 113 k (w 113 6)) u q) 0 0 := by
    refine gp_go od_Rf_takesMind rfl ?_
    (repeat refine gp_gc [12, 24, 36, 48, 60, 72, 84, 96, 108, 110, 190] od_Rf_takesMind rfl rfl ?_)
    exact lo1 16 0 (gm_a w k) rfl (fun _ _ _ _ => rfl) (fun b b1 b2 => ⟨fun x hx => by omega, fun x _ => by
      unfold gm_a
      rw [gw_ne (by omega), gw_ne (by omega), gw_ne (by omega), gw_ne (by omega), gw_ne (by omega), gw_ne (by omega), gw_ne (by omega), gw_ne (by omega), gw_ne (by omega)]⟩)
  have s96 : gp_Go l G d m_Rf_takesMind K 96 [some (.ref 95), some (.int (nI k)), some (.int 6), none] [] (gv (gw (gw (gw (gw (gw (gw (gw (gw w 107 k (w 107 6)) 108 k (w 108 6)) 109 k (w 109 6)) 110 k (w 110 6)) 111 k (w 111 6)) 121 k (w 121 6)) 122 k (w 122 6)) 112 k (w 112 6)) u q) 0 0 := by
    refine gp_go od_Rf_takesMind rfl ?_
    (repeat refine gp_gc [12, 24, 36, 48, 60, 72, 84, 96, 108, 110, 190] od_Rf_takesMind rfl rfl ?_)
    refine And.intro i6 ?_
    (repeat refine gp_gc [12, 24, 36, 48, 60, 72, 84, 96, 108, 110, 190] od_Rf_takesMind rfl rfl ?_)
    refine And.intro ik ?_
    (repeat refine gp_gc [12, 24, 36, 48, 60, 72, 84, 96, 108, 110, 190] od_Rf_takesMind rfl rfl ?_)
    rw [ck]
    exact s108
  have s84 : gp_Go l G d m_Rf_takesMind K 84 [some (.ref 95), some (.int (nI k)), some (.int 6), none] [] (gv (gw (gw (gw (gw (gw (gw (gw w 107 k (w 107 6)) 108 k (w 108 6)) 109 k (w 109 6)) 110 k (w 110 6)) 111 k (w 111 6)) 121 k (w 121 6)) 122 k (w 122 6)) u q) 0 0 := by
    refine gp_go od_Rf_takesMind rfl ?_
    (repeat refine gp_gc [12, 24, 36, 48, 60, 72, 84, 96, 108, 110, 190] od_Rf_takesMind rfl rfl ?_)
    refine And.intro i6 ?_
    (repeat refine gp_gc [12, 24, 36, 48, 60, 72, 84, 96, 108, 110, 190] od_Rf_takesMind rfl rfl ?_)
    refine And.intro ik ?_
    (repeat refine gp_gc [12, 24, 36, 48, 60, 72, 84, 96, 108, 110, 190] od_Rf_takesMind rfl rfl ?_)
    rw [ck]
    exact s96
  have s72 : gp_Go l G d m_Rf_takesMind K 72 [some (.ref 95), some (.int (nI k)), some (.int 6), none] [] (gv (gw (gw (gw (gw (gw (gw w 107 k (w 107 6)) 108 k (w 108 6)) 109 k (w 109 6)) 110 k (w 110 6)) 111 k (w 111 6)) 121 k (w 121 6)) u q) 0 0 := by
    rw [← n8] at s84
    refine gp_go od_Rf_takesMind rfl ?_
    (repeat refine gp_gc [12, 24, 36, 48, 60, 72, 84, 96, 108, 110, 190] od_Rf_takesMind rfl rfl ?_)
    refine And.intro i6 ?_
    (repeat refine gp_gc [12, 24, 36, 48, 60, 72, 84, 96, 108, 110, 190] od_Rf_takesMind rfl rfl ?_)
    refine And.intro ik ?_
    (repeat refine gp_gc [12, 24, 36, 48, 60, 72, 84, 96, 108, 110, 190] od_Rf_takesMind rfl rfl ?_)
    rw [ck]
    exact s84
  have s60 : gp_Go l G d m_Rf_takesMind K 60 [some (.ref 95), some (.int (nI k)), some (.int 6), none] [] (gv (gw (gw (gw (gw (gw w 107 k (w 107 6)) 108 k (w 108 6)) 109 k (w 109 6)) 110 k (w 110 6)) 111 k (w 111 6)) u q) 0 0 := by
    rw [← n7] at s72
    refine gp_go od_Rf_takesMind rfl ?_
    (repeat refine gp_gc [12, 24, 36, 48, 60, 72, 84, 96, 108, 110, 190] od_Rf_takesMind rfl rfl ?_)
    refine And.intro i6 ?_
    (repeat refine gp_gc [12, 24, 36, 48, 60, 72, 84, 96, 108, 110, 190] od_Rf_takesMind rfl rfl ?_)
    refine And.intro ik ?_
    (repeat refine gp_gc [12, 24, 36, 48, 60, 72, 84, 96, 108, 110, 190] od_Rf_takesMind rfl rfl ?_)
    rw [ck]
    exact s72
  have s48 : gp_Go l G d m_Rf_takesMind K 48 [some (.ref 95), some (.int (nI k)), some (.int 6), none] [] (gv (gw (gw (gw (gw w 107 k (w 107 6)) 108 k (w 108 6)) 109 k (w 109 6)) 110 k (w 110 6)) u q) 0 0 := by
    refine gp_go od_Rf_takesMind rfl ?_
    (repeat refine gp_gc [12, 24, 36, 48, 60, 72, 84, 96, 108, 110, 190] od_Rf_takesMind rfl rfl ?_)
    refine And.intro i6 ?_
    (repeat refine gp_gc [12, 24, 36, 48, 60, 72, 84, 96, 108, 110, 190] od_Rf_takesMind rfl rfl ?_)
    refine And.intro ik ?_
    (repeat refine gp_gc [12, 24, 36, 48, 60, 72, 84, 96, 108, 110, 190] od_Rf_takesMind rfl rfl ?_)
    rw [ck]
    exact s60
  have s36 : gp_Go l G d m_Rf_takesMind K 36 [some (.ref 95), some (.int (nI k)), some (.int 6), none] [] (gv (gw (gw (gw w 107 k (w 107 6)) 108 k (w 108 6)) 109 k (w 109 6)) u q) 0 0 := by
    refine gp_go od_Rf_takesMind rfl ?_
    (repeat refine gp_gc [12, 24, 36, 48, 60, 72, 84, 96, 108, 110, 190] od_Rf_takesMind rfl rfl ?_)
    refine And.intro i6 ?_
    (repeat refine gp_gc [12, 24, 36, 48, 60, 72, 84, 96, 108, 110, 190] od_Rf_takesMind rfl rfl ?_)
    refine And.intro ik ?_
    (repeat refine gp_gc [12, 24, 36, 48, 60, 72, 84, 96, 108, 110, 190] od_Rf_takesMind rfl rfl ?_)
    rw [ck]
    exact s48
  have s24 : gp_Go l G d m_Rf_takesMind K 24 [some (.ref 95), some (.int (nI k)), some (.int 6), none] [] (gv (gw (gw w 107 k (w 107 6)) 108 k (w 108 6)) u q) 0 0 := by
    refine gp_go od_Rf_takesMind rfl ?_
    (repeat refine gp_gc [12, 24, 36, 48, 60, 72, 84, 96, 108, 110, 190] od_Rf_takesMind rfl rfl ?_)
    refine And.intro i6 ?_
    (repeat refine gp_gc [12, 24, 36, 48, 60, 72, 84, 96, 108, 110, 190] od_Rf_takesMind rfl rfl ?_)
    refine And.intro ik ?_
    (repeat refine gp_gc [12, 24, 36, 48, 60, 72, 84, 96, 108, 110, 190] od_Rf_takesMind rfl rfl ?_)
    rw [ck]
    exact s36
  have s12 : gp_Go l G d m_Rf_takesMind K 12 [some (.ref 95), some (.int (nI k)), some (.int 6), none] [] (gv (gw w 107 k (w 107 6)) u q) 0 0 := by
    refine gp_go od_Rf_takesMind rfl ?_
    (repeat refine gp_gc [12, 24, 36, 48, 60, 72, 84, 96, 108, 110, 190] od_Rf_takesMind rfl rfl ?_)
    refine And.intro i6 ?_
    (repeat refine gp_gc [12, 24, 36, 48, 60, 72, 84, 96, 108, 110, 190] od_Rf_takesMind rfl rfl ?_)
    refine And.intro ik ?_
    (repeat refine gp_gc [12, 24, 36, 48, 60, 72, 84, 96, 108, 110, 190] od_Rf_takesMind rfl rfl ?_)
    rw [ck]
    exact s24
  have s0 : gp_Go l G d m_Rf_takesMind K 0 [some (.ref 95), some (.int (nI k)), some (.int 6), none] [] (gv w u q) 0 0 := by
    refine gp_go od_Rf_takesMind rfl ?_
    (repeat refine gp_gc [12, 24, 36, 48, 60, 72, 84, 96, 108, 110, 190] od_Rf_takesMind rfl rfl ?_)
    refine And.intro i6 ?_
    (repeat refine gp_gc [12, 24, 36, 48, 60, 72, 84, 96, 108, 110, 190] od_Rf_takesMind rfl rfl ?_)
    refine And.intro ik ?_
    (repeat refine gp_gc [12, 24, 36, 48, 60, 72, 84, 96, 108, 110, 190] od_Rf_takesMind rfl rfl ?_)
    rw [ck]
    exact s12
  refine gp_enter od_Rf_takesMind rfl ?_
  exact s0

end
