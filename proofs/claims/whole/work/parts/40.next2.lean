section
variable {l : Launch} {G : gp_G} {d : Nat} {w : Nat → Nat → Int32} {u : Int64 × (Nat → Int64)} {q : Nat → Nat} {K : Option Value → gp_H → Prop}
/-! ===== the reference's methods: next0 ===== -/
section
variable {tp : Nat → Nat} {n : Nat}
set_option maxRecDepth 100000 in
theorem gl_next_let (T : gx_T w tp n) {S : Nat} {t s v x : Int32} (es : s = nI S) : ∀ (r P : Nat) (p : Int32), P + r = n → p = nI P → S ≤ P → (∀ p' t', p' = nI (gx_run gx_le tp r P) → t' = nI (gx_rt (gx_kw (gx_sub tp S (gx_run gx_le tp r P)))) → K none (gv (gn w p' t' s v) u q)) → gp_Go l G (d + 8) m_Rf_next0 K 76 [some (.ref 95), some (.int x), none] [] (gv (gn w p t s v) u q) 0 0 := by
  have fin : ∀ (P : Nat) (p : Int32), P ≤ n → p = nI P → S ≤ P → (∀ t', t' = nI (gx_rt (gx_kw (gx_sub tp S P))) → K none (gv (gn w p t' s v) u q)) → gp_Go l G (d + 8) m_Rf_next0 K 103 [some (.ref 95), some (.int x), none] [] (gv (gn w p t s v) u q) 0 0 := by
    intro P p hP ep hS h
    have k108 : ∀ y, y = nI (gx_rt (gx_kw (gx_sub tp S P))) → gp_Go l G (d + 8) m_Rf_next0 K 108 [some (.ref 95), some (.int x), none] [.int y, .ref 95] (gv (gn w p t s v) u q) 0 0 := by
      intro y ey
      refine gp_go od_Rf_next0 rfl ?_
      (repeat refine gp_gc [0, 76, 126] od_Rf_next0 rfl rfl ?_)
      exact h y ey
    refine gp_go od_Rf_next0 rfl ?_
    (repeat refine gp_gc [0, 76, 108, 126] od_Rf_next0 rfl rfl ?_)
    refine sp_Rf_word (d := d + 1) (w := gn w p t s v) (tp := tp) (n := n) T es ep hS hP ?_
    (repeat refine gp_gc [0, 76, 108, 126] od_Rf_next0 rfl rfl ?_)
    exact k108 _ rfl
  intro r
  induction r with
  | zero =>
    intro P p hP ep hS h
    refine gp_go od_Rf_next0 rfl ?_
    (repeat refine gp_gc [0, 76, 103, 126] od_Rf_next0 rfl rfl ?_)
    refine sp_Rf_see (d := d + 7) (w := gn w p t s v) (tp := tp) (n := n) T ep (by omega) (fun c => by omega) (fun _ => ?_)
    (repeat refine gp_gc [0, 76, 103, 126] od_Rf_next0 rfl rfl ?_)
    refine sp_Rf_isLetter (d := d + 6) (fun c => absurd c (by decide)) (fun _ => ?_)
    (repeat refine gp_gc [0, 76, 103, 126] od_Rf_next0 rfl rfl ?_)
    refine gb1_eq_t rfl ?_
    (repeat refine gp_gc [0, 76, 103, 126] od_Rf_next0 rfl rfl ?_)
    exact fin P p (by omega) ep hS (fun t' et => h p t' ep et)
  | succ r ih =>
    intro P p hP ep hS h
    have hb := (T.2.2 P (by omega)).2
    refine gp_go od_Rf_next0 rfl ?_
    (repeat refine gp_gc [0, 76, 97, 103, 126] od_Rf_next0 rfl rfl ?_)
    refine sp_Rf_see (d := d + 7) (w := gn w p t s v) (tp := tp) (n := n) T ep (by omega) (fun _ => ?_) (fun c => by omega)
    (repeat refine gp_gc [0, 76, 97, 103, 126] od_Rf_next0 rfl rfl ?_)
    refine sp_Rf_isLetter (d := d + 6) (fun c => ?_) (fun c => ?_)
    · rw [gx_le_n hb] at c
      have k97 : ∀ y, y = nI (P + 1) → gp_Go l G (d + 8) m_Rf_next0 K 97 [some (.ref 95), some (.int x), none] [.int y, .ref 95] (gv (gn w p t s v) u q) 0 0 := by
        intro y ey
        refine gp_go od_Rf_next0 rfl ?_
        (repeat refine gp_gc [0, 76, 97, 103, 126] od_Rf_next0 rfl rfl ?_)
        refine ih (P + 1) y (by omega) ey (by omega) ?_
        have e1 : gx_run gx_le tp (r + 1) P = gx_run gx_le tp r (P + 1) := if_pos c
        rw [e1] at h
        exact h
      (repeat refine gp_gc [0, 76, 97, 103, 126] od_Rf_next0 rfl rfl ?_)
      refine gb1_eq_f (by decide) ?_
      (repeat refine gp_gc [0, 76, 97, 103, 126] od_Rf_next0 rfl rfl ?_)
      exact k97 _ (show p + 1 = nI (P + 1) by rw [ep, nI_1])
    · rw [gx_le_n hb] at c
      have e1 : gx_run gx_le tp (r + 1) P = P := if_neg c
      rw [e1] at h
      (repeat refine gp_gc [0, 76, 97, 103, 126] od_Rf_next0 rfl rfl ?_)
      refine gb1_eq_t rfl ?_
      (repeat refine gp_gc [0, 76, 97, 103, 126] od_Rf_next0 rfl rfl ?_)
      exact fin P p (by omega) ep hS (fun t' et => h p t' ep et)
set_option maxRecDepth 100000 in
theorem gl_next_dig (T : gx_T w tp n) {S : Nat} {t s x : Int32} (es : s = nI S) : ∀ (r P : Nat) (p v : Int32), P + r = n → p = nI P → S ≤ P → (P ≤ S + 4 → ∃ a, v = nI a ∧ a < 10 ^ (P - S) ∧ ∀ E, P ≤ E → gx_nm tp (E - S) S 0 = gx_nm tp (E - P) P a) → (∀ p' t' v', p' = nI (gx_run gx_di tp r P) → t' = nI (gx_rt (if gx_run gx_di tp r P - S < 5 then 30 else 32)) → (gx_run gx_di tp r P - S < 5 → v' = nI (gx_nm tp (gx_run gx_di tp r P - S) S 0)) → K none (gv (gn w p' t' s v') u q)) → gp_Go l G (d + 8) m_Rf_next0 K 126 [some (.ref 95), some (.int x), none] [] (gv (gn w p t s v) u q) 0 0 := by
  have fin : ∀ (P : Nat) (p v : Int32), P ≤ n → p = nI P → S ≤ P → (P ≤ S + 4 → ∃ a, v = nI a ∧ a < 10 ^ (P - S) ∧ ∀ E, P ≤ E → gx_nm tp (E - S) S 0 = gx_nm tp (E - P) P a) → (∀ t', t' = nI (gx_rt (if P - S < 5 then 30 else 32)) → (P - S < 5 → v = nI (gx_nm tp (P - S) S 0)) → K none (gv (gn w p t' s v) u q)) → gp_Go l G (d + 8) m_Rf_next0 K 189 [some (.ref 95), some (.int x), none] [] (gv (gn w p t s v) u q) 0 0 := by
    intro P p v hP ep hS ha h
    have hn := T.2.1
    have hv : P - S < 5 → v = nI (gx_nm tp (P - S) S 0) := by
      intro hlt
      obtain ⟨a, e1, _, e2⟩ := ha (by omega)
      rw [e2 P (Nat.le_refl P), Nat.sub_self]
      exact e1
    have k208 : ∀ y, y = nI (gx_rt (if P - S < 5 then 30 else 32)) → gp_Go l G (d + 8) m_Rf_next0 K 208 [some (.ref 95), some (.int x), none] [.int y, .ref 95] (gv (gn w p t s v) u q) 0 0 := by
      intro y ey
      refine gp_go od_Rf_next0 rfl ?_
      (repeat refine gp_gc [0, 76, 97, 103, 126] od_Rf_next0 rfl rfl ?_)
      exact h y ey hv
    have e0 : p - s = nI (P - S) := by rw [ep, es]; exact pk_sub hS
    refine gp_go od_Rf_next0 rfl ?_
    (repeat refine gp_gc [0, 76, 126, 208] od_Rf_next0 rfl rfl ?_)
    by_cases c : P - S < 5
    · rw [if_pos c] at k208
      refine gb_ge_f (show ¬ nI 5 ≤ p - s by rw [e0]; exact nI_ge c (by omega)) ?_
      (repeat refine gp_gc [0, 76, 126, 208] od_Rf_next0 rfl rfl ?_)
      exact k208 _ (by decide)
    · rw [if_neg c] at k208
      refine gb_ge_t (show nI 5 ≤ p - s by rw [e0]; exact nI_le (by omega) (by omega)) ?_
      (repeat refine gp_gc [0, 76, 126, 208] od_Rf_next0 rfl rfl ?_)
      exact k208 _ (by decide)
  intro r
  induction r with
  | zero =>
    intro P p v hP ep hS ha h
    refine gp_go od_Rf_next0 rfl ?_
    (repeat refine gp_gc [0, 76, 126, 189] od_Rf_next0 rfl rfl ?_)
    refine sp_Rf_see (d := d + 7) (w := gn w p t s v) (tp := tp) (n := n) T ep (by omega) (fun c => by omega) (fun _ => ?_)
    (repeat refine gp_gc [0, 76, 126, 189] od_Rf_next0 rfl rfl ?_)
    refine sp_Rf_isDigit (d := d + 6) (fun c => absurd c (by decide)) (fun _ => ?_)
    (repeat refine gp_gc [0, 76, 126, 189] od_Rf_next0 rfl rfl ?_)
    refine gb1_eq_t rfl ?_
    (repeat refine gp_gc [0, 76, 126, 189] od_Rf_next0 rfl rfl ?_)
    exact fin P p v (by omega) ep hS ha (fun t' et hv => h p t' v ep et hv)
  | succ r ih =>
    intro P p v hP ep hS ha h
    have hn := T.2.1
    have hb := (T.2.2 P (by omega)).2
    refine gp_go od_Rf_next0 rfl ?_
    (repeat refine gp_gc [0, 76, 126, 189] od_Rf_next0 rfl rfl ?_)
    refine sp_Rf_see (d := d + 7) (w := gn w p t s v) (tp := tp) (n := n) T ep (by omega) (fun _ => ?_) (fun c => by omega)
    (repeat refine gp_gc [0, 76, 126, 189] od_Rf_next0 rfl rfl ?_)
    refine sp_Rf_isDigit (d := d + 6) (fun c => ?_) (fun c => ?_)
    rotate_left
    · rw [gx_di_n hb] at c
      have e1 : gx_run gx_di tp (r + 1) P = P := if_neg c
      rw [e1] at h
      (repeat refine gp_gc [0, 76, 126, 189] od_Rf_next0 rfl rfl ?_)
      refine gb1_eq_t rfl ?_
      (repeat refine gp_gc [0, 76, 126, 189] od_Rf_next0 rfl rfl ?_)
      exact fin P p v (by omega) ep hS ha (fun t' et hv => h p t' v ep et hv)
    rw [gx_di_n hb] at c
    have e1 : gx_run gx_di tp (r + 1) P = gx_run gx_di tp r (P + 1) := if_pos c
    rw [e1] at h
    have hc : 48 ≤ tp P ∧ tp P ≤ 57 := of_decide_eq_true c
    have k176 : ∀ v', (P + 1 ≤ S + 4 → ∃ a, v' = nI a ∧ a < 10 ^ (P + 1 - S) ∧ ∀ E, P + 1 ≤ E → gx_nm tp (E - S) S 0 = gx_nm tp (E - (P + 1)) (P + 1) a) → gp_Go l G (d + 8) m_Rf_next0 K 176 [some (.ref 95), some (.int x), none] [] (gv (gn w p t s v') u q) 0 0 := by
      intro v' hv'
      have k183 : ∀ y, y = nI (P + 1) → gp_Go l G (d + 8) m_Rf_next0 K 183 [some (.ref 95), some (.int x), none] [.int y, .ref 95] (gv (gn w p t s v') u q) 0 0 := by
        intro y ey
        refine gp_go od_Rf_next0 rfl ?_
        (repeat refine gp_gc [0, 76, 126, 189] od_Rf_next0 rfl rfl ?_)
        exact ih (P + 1) y v' (by omega) ey (by omega) hv' h
      refine gp_go od_Rf_next0 rfl ?_
      (repeat refine gp_gc [0, 76, 126, 183] od_Rf_next0 rfl rfl ?_)
      exact k183 _ (show p + 1 = nI (P + 1) by rw [ep, nI_1])
    have k173 : ∀ v', (P + 1 ≤ S + 4 → ∃ a, v' = nI a ∧ a < 10 ^ (P + 1 - S) ∧ ∀ E, P + 1 ≤ E → gx_nm tp (E - S) S 0 = gx_nm tp (E - (P + 1)) (P + 1) a) → gp_Go l G (d + 8) m_Rf_next0 K 173 [some (.ref 95), some (.int x), none] [.int v', .ref 95] (gv (gn w p t s v) u q) 0 0 := by
      intro v' hv'
      refine gp_go od_Rf_next0 rfl ?_
      (repeat refine gp_gc [0, 76, 126, 176] od_Rf_next0 rfl rfl ?_)
      exact k176 v' hv'
    (repeat refine gp_gc [0, 76, 126, 176] od_Rf_next0 rfl rfl ?_)
    refine gb1_eq_f (by decide) ?_
    (repeat refine gp_gc [0, 76, 126, 176] od_Rf_next0 rfl rfl ?_)
    have e4 : s + 4 = nI (S + 4) := by rw [es]; exact nI_add S 4
    by_cases c2 : P < S + 4
    · refine gb_ge_f (show ¬ s + 4 ≤ p by rw [e4, ep]; exact nI_ge c2 (by omega)) ?_
      (repeat refine gp_gc [0, 76, 126, 176] od_Rf_next0 rfl rfl ?_)
      refine sp_Rf_see (d := d + 7) (w := gn w p t s v) (tp := tp) (n := n) T ep (by omega) (fun _ => ?_) (fun c => by omega)
      (repeat refine gp_gc [0, 76, 126, 173] od_Rf_next0 rfl rfl ?_)
      refine k173 _ (fun hle => ?_)
      obtain ⟨a, a1, a2, a3⟩ := ha (by omega)
      refine ⟨10 * a + (tp P - 48), ?_, ?_, fun E hE => ?_⟩
      · show nI 10 * v + nI (tp P) - nI 48 = _
        rw [a1, pk_mul, nI_add, pk_sub (by omega)]
        exact congrArg nI (by omega)
      · rw [show P + 1 - S = P - S + 1 by omega, Nat.pow_succ]
        omega
      · rw [a3 E (by omega), show E - P = (E - (P + 1)) + 1 by omega]
        rfl
    · refine gb_ge_t (show s + 4 ≤ p by rw [e4, ep]; exact nI_le (by omega) (by omega)) ?_
      (repeat refine gp_gc [0, 76, 126, 176] od_Rf_next0 rfl rfl ?_)
      exact k176 v (fun hle => by omega)
theorem gx_kw_b (l : List Nat) : gx_kw l < 22 ∨ gx_kw l = 32 := by
  have ite2 : ∀ {c : Prop} {dc : Decidable c} {a b : Nat}, (a < 22 ∨ a = 32) → (b < 22 ∨ b = 32) → (@ite Nat c dc a b < 22 ∨ @ite Nat c dc a b = 32) := by
    intro c dc a b h1 h2
    by_cases h : c
    · rw [if_pos h]; exact h1
    · rw [if_neg h]; exact h2
  unfold gx_kw gx_kwN
  repeat refine ite2 (Or.inl (by decide)) ?_
  exact Or.inr rfl
theorem gn_self (w : Nat → Nat → Int32) : gn w (w 95 34) (w 95 35) (w 95 36) (w 95 37) = w := by
  unfold gn
  rw [gw_self (w := w) (a := 95) (k := 34) rfl, gw_self (w := w) (a := 95) (k := 35) rfl, gw_self (w := w) (a := 95) (k := 36) rfl, gw_self (w := w) (a := 95) (k := 37) rfl]
set_option maxRecDepth 100000 in
theorem sp_Rf_next0 {P : Nat} (T : gx_T w tp n) (eP : w 95 34 = nI P) (hP : P ≤ n) (h : ∀ p' t' s' v', p' = nI (gx_e tp n P) → t' = nI (gx_rt (gx_k tp n P)) → s' = nI (gx_s tp n P) → (gx_k tp n P = 30 → v' = nI (gx_v tp n P)) → K none (gv (gn w p' t' s' v') u q)) : gp_Cal l G (d + 8) m_Rf_next0 [.ref 95] (gv w u q) K := by
  refine gp_enter od_Rf_next0 rfl ?_
  have hn := T.2.1
  have hSb := gx_run_b (C := gx_bl) (tp := tp) (n - P) P
  obtain ⟨S, eS⟩ : ∃ S, S = gx_s tp n P := ⟨_, rfl⟩
  have hSn : S ≤ n := by rw [eS]; unfold gx_s; omega
  have k47 : ∀ (p t s v : Int32), p = nI S → s = nI S → gp_Go l G (d + 8) m_Rf_next0 K 47 [some (.ref 95), none, none] [] (gv (gn w p t s v) u q) 0 0 := by
    intro p t s v ep es
    by_cases c0 : S < n
    rotate_left
    · have e1 : gx_e tp n P = n := if_pos (by omega)
      have e2 : gx_k tp n P = 31 := if_pos (by omega)
      have k63 : ∀ y, y = nI 0 → gp_Go l G (d + 8) m_Rf_next0 K 63 [some (.ref 95), some (.int (-1)), none] [.int y, .ref 95] (gv (gn w p t s v) u q) 0 0 := by
        intro y ey
        refine gp_go od_Rf_next0 rfl ?_
        (repeat refine gp_gc [0, 76, 126, 176] od_Rf_next0 rfl rfl ?_)
        exact h p y s v (by rw [ep, e1]; exact congrArg nI (by omega)) (by rw [ey, e2]; rfl) (by rw [es, eS]) (fun z => by rw [e2] at z; exact absurd z (by decide))
      refine gp_go od_Rf_next0 rfl ?_
      (repeat refine gp_gc [0, 63, 76, 126] od_Rf_next0 rfl rfl ?_)
      refine sp_Rf_see (d := d + 7) (w := gn w p t s v) (tp := tp) (n := n) T ep hSn (fun c => absurd c c0) (fun _ => ?_)
      (repeat refine gp_gc [0, 63, 76, 126] od_Rf_next0 rfl rfl ?_)
      refine gb_ne_f rfl ?_
      (repeat refine gp_gc [0, 63, 76, 126] od_Rf_next0 rfl rfl ?_)
      exact k63 _ rfl
    have hb := (T.2.2 S c0).2
    have hc0 : ¬ n ≤ gx_s tp n P := by rw [← eS]; omega
    refine gp_go od_Rf_next0 rfl ?_
    (repeat refine gp_gc [0, 76, 126] od_Rf_next0 rfl rfl ?_)
    refine sp_Rf_see (d := d + 7) (w := gn w p t s v) (tp := tp) (n := n) T ep hSn (fun _ => ?_) (fun c => absurd c0 c)
    (repeat refine gp_gc [0, 76, 126] od_Rf_next0 rfl rfl ?_)
    refine gb_ne_t (fun z => absurd (show nI (tp S) < 0 by rw [z]; decide) (nI_pos (by omega))) ?_
    (repeat refine gp_gc [0, 76, 126] od_Rf_next0 rfl rfl ?_)
    refine sp_Rf_isLetter (d := d + 6) (fun c1 => ?_) (fun c1 => ?_)
    · rw [gx_le_n hb] at c1
      have e1 : gx_e tp n P = gx_run gx_le tp (n - S) S := by
        unfold gx_e
        rw [if_neg hc0, ← eS, if_pos c1]
      have e2 : gx_k tp n P = gx_kw (gx_sub tp S (gx_run gx_le tp (n - S) S)) := by
        unfold gx_k
        rw [if_neg hc0, e1, ← eS, if_pos c1]
      (repeat refine gp_gc [0, 76, 126] od_Rf_next0 rfl rfl ?_)
      refine gb1_eq_f (by decide) ?_
      (repeat refine gp_gc [0, 76, 126] od_Rf_next0 rfl rfl ?_)
      refine gl_next_let T es (n - S) S p (by omega) ep (Nat.le_refl S) (fun p' t' ep' et' => ?_)
      refine h p' t' s v (by rw [ep', e1]) (by rw [et', e2]) (by rw [es, eS]) (fun z => ?_)
      rw [e2] at z
      have := gx_kw_b (gx_sub tp S (gx_run gx_le tp (n - S) S))
      omega
    rw [gx_le_n hb] at c1
    (repeat refine gp_gc [0, 76, 126] od_Rf_next0 rfl rfl ?_)
    refine gb1_eq_t rfl ?_
    (repeat refine gp_gc [0, 76, 126] od_Rf_next0 rfl rfl ?_)
    refine sp_Rf_isDigit (d := d + 6) (fun c2 => ?_) (fun c2 => ?_)
    · rw [gx_di_n hb] at c2
      have e1 : gx_e tp n P = gx_run gx_di tp (n - S) S := by
        unfold gx_e
        rw [if_neg hc0, ← eS, if_neg c1, if_pos c2]
      have e2 : gx_k tp n P = if gx_run gx_di tp (n - S) S - S < 5 then 30 else 32 := by
        unfold gx_k
        rw [if_neg hc0, e1, ← eS, if_neg c1, if_pos c2]
      have k123 : ∀ y, y = nI 0 → gp_Go l G (d + 8) m_Rf_next0 K 123 [some (.ref 95), some (.int (nI (tp S))), none] [.int y, .ref 95] (gv (gn w p t s v) u q) 0 0 := by
        intro y ey
        refine gp_go od_Rf_next0 rfl ?_
        (repeat refine gp_gc [0, 76, 126] od_Rf_next0 rfl rfl ?_)
        refine gl_next_dig T es (n - S) S p y (by omega) ep (Nat.le_refl S) (fun _ => ⟨0, ey, Nat.pow_pos (by decide), fun E _ => rfl⟩) (fun p' t' v' ep' et' ev' => ?_)
        refine h p' t' s v' (by rw [ep', e1]) (by rw [et', e2]) (by rw [es, eS]) (fun z => ?_)
        rw [e2] at z
        have hlt : gx_run gx_di tp (n - S) S - S < 5 := by
          by_cases c : gx_run gx_di tp (n - S) S - S < 5
          · exact c
          · rw [if_neg c] at z; exact absurd z (by decide)
        rw [ev' hlt]
        unfold gx_v
        rw [e1, ← eS]
      (repeat refine gp_gc [0, 76, 123, 126] od_Rf_next0 rfl rfl ?_)
      refine gb1_eq_f (by decide) ?_
      (repeat refine gp_gc [0, 76, 123, 126] od_Rf_next0 rfl rfl ?_)
      exact k123 _ rfl
    rw [gx_di_n hb] at c2
    have e1 : gx_e tp n P = S + 1 := by
      unfold gx_e
      rw [if_neg hc0, ← eS, if_neg c1, if_neg c2]
    have e2 : gx_k tp n P = if gx_sg (tp S) then tp S else 32 := by
      unfold gx_k
      rw [if_neg hc0, ← eS, if_neg c1, if_neg c2]
    have k221 : ∀ y, y = nI (S + 1) → gp_Go l G (d + 8) m_Rf_next0 K 221 [some (.ref 95), some (.int (nI (tp S))), none] [.int y, .ref 95] (gv (gn w p t s v) u q) 0 0 := by
      intro y ey
      refine gp_go od_Rf_next0 rfl ?_
      (repeat refine gp_gc [224] od_Rf_next0 rfl rfl ?_)
      refine gl_next_sign (w := w) (t := t) (s := s) (v := v) (p := y) (S := S) T c0 (by simpa using c1) (by simpa using c2) (fun t' et' => ?_)
      refine h y t' s v (by rw [ey, e1]) (by rw [et', e2]) (by rw [es, eS]) (fun z => ?_)
      rw [e2] at z
      by_cases g : gx_sg (tp S) = true
      · rw [if_pos g] at z
        rw [z] at g
        exact absurd g (by decide)
      · rw [if_neg g] at z
        exact absurd z (by decide)
    (repeat refine gp_gc [0, 76, 126, 221] od_Rf_next0 rfl rfl ?_)
    refine gb1_eq_t rfl ?_
    (repeat refine gp_gc [0, 76, 126, 221] od_Rf_next0 rfl rfl ?_)
    exact k221 _ (show p + 1 = nI (S + 1) by rw [ep, nI_1])
  have k39 : ∀ (p t s v : Int32), p = nI S → gp_Go l G (d + 8) m_Rf_next0 K 39 [some (.ref 95), none, none] [] (gv (gn w p t s v) u q) 0 0 := by
    intro p t s v ep
    have k44 : ∀ y, y = nI S → gp_Go l G (d + 8) m_Rf_next0 K 44 [some (.ref 95), none, none] [.int y, .ref 95] (gv (gn w p t s v) u q) 0 0 := by
      intro y ey
      refine gp_go od_Rf_next0 rfl ?_
      (repeat refine gp_gc [47] od_Rf_next0 rfl rfl ?_)
      exact k47 p t y v ep ey
    refine gp_go od_Rf_next0 rfl ?_
    (repeat refine gp_gc [44] od_Rf_next0 rfl rfl ?_)
    exact k44 _ ep
  have key : ∀ (r Q : Nat) (p t s v : Int32), Q + r = n → p = nI Q → gx_run gx_bl tp r Q = S → gp_Go l G (d + 8) m_Rf_next0 K 0 [some (.ref 95), none, none] [] (gv (gn w p t s v) u q) 0 0 := by
    intro r
    induction r with
    | zero =>
      intro Q p t s v hQ ep eR
      have eR : Q = S := eR
      refine gp_go od_Rf_next0 rfl ?_
      (repeat refine gp_gc [0, 39] od_Rf_next0 rfl rfl ?_)
      refine sp_Rf_see (d := d + 7) (w := gn w p t s v) (tp := tp) (n := n) T ep (by omega) (fun c => by omega) (fun _ => ?_)
      (repeat refine gp_gc [0, 39] od_Rf_next0 rfl rfl ?_)
      refine gb_eq_f (by decide) ?_
      (repeat refine gp_gc [0, 39] od_Rf_next0 rfl rfl ?_)
      refine sp_Rf_see (d := d + 7) (w := gn w p t s v) (tp := tp) (n := n) T ep (by omega) (fun c => by omega) (fun _ => ?_)
      (repeat refine gp_gc [0, 39] od_Rf_next0 rfl rfl ?_)
      refine gb_ne_t (by decide) ?_
      (repeat refine gp_gc [0, 39] od_Rf_next0 rfl rfl ?_)
      exact k39 p t s v (by rw [ep, eR])
    | succ r ih =>
      intro Q p t s v hQ ep eR
      have hb := (T.2.2 Q (by omega)).2
      have eR : (if gx_bl (tp Q) then gx_run gx_bl tp r (Q + 1) else Q) = S := eR
      have k33 : ∀ y, y = nI (Q + 1) → gx_bl (tp Q) = true → gp_Go l G (d + 8) m_Rf_next0 K 33 [some (.ref 95), none, none] [.int y, .ref 95] (gv (gn w p t s v) u q) 0 0 := by
        intro y ey g
        rw [if_pos g] at eR
        refine gp_go od_Rf_next0 rfl ?_
        (repeat refine gp_gc [0, 39] od_Rf_next0 rfl rfl ?_)
        exact ih (Q + 1) y t s v (by omega) ey eR
      refine gp_go od_Rf_next0 rfl ?_
      (repeat refine gp_gc [0, 33, 39] od_Rf_next0 rfl rfl ?_)
      refine sp_Rf_see (d := d + 7) (w := gn w p t s v) (tp := tp) (n := n) T ep (by omega) (fun _ => ?_) (fun c => by omega)
      (repeat refine gp_gc [0, 33, 39] od_Rf_next0 rfl rfl ?_)
      by_cases c1 : tp Q = 32
      · refine gb_eq_t (show nI (tp Q) = nI 32 by rw [c1]) ?_
        (repeat refine gp_gc [0, 33, 39] od_Rf_next0 rfl rfl ?_)
        exact k33 _ (show p + 1 = nI (Q + 1) by rw [ep, nI_1]) (by rw [c1]; decide)
      refine gb_eq_f (fun z => c1 ((nI_eq (b := 32) (by omega) (by decide)).mp z)) ?_
      (repeat refine gp_gc [0, 33, 39] od_Rf_next0 rfl rfl ?_)
      refine sp_Rf_see (d := d + 7) (w := gn w p t s v) (tp := tp) (n := n) T ep (by omega) (fun _ => ?_) (fun c => by omega)
      (repeat refine gp_gc [0, 33, 39] od_Rf_next0 rfl rfl ?_)
      by_cases c2 : tp Q = 10
      · refine gb_ne_f (show nI (tp Q) = nI 10 by rw [c2]) ?_
        (repeat refine gp_gc [0, 33, 39] od_Rf_next0 rfl rfl ?_)
        exact k33 _ (show p + 1 = nI (Q + 1) by rw [ep, nI_1]) (by rw [c2]; decide)
      refine gb_ne_t (fun z => c2 ((nI_eq (b := 10) (by omega) (by decide)).mp z)) ?_
      (repeat refine gp_gc [0, 33, 39] od_Rf_next0 rfl rfl ?_)
      have g : ¬ gx_bl (tp Q) = true := by
        unfold gx_bl
        simp [c1, c2]
      rw [if_neg g] at eR
      exact k39 p t s v (by rw [ep, eR])
  have k0 := key (n - P) P (w 95 34) (w 95 35) (w 95 36) (w 95 37) (by omega) eP eS.symm
  rw [gn_self] at k0
  exact k0
end

end
