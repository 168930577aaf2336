section
variable {l : Launch} {G : gp_G} {d : Nat} {w : Nat → Nat → Int32} {u : Int64 × (Nat → Int64)} {q : Nat → Nat} {K : Option Value → gp_H → Prop}
/-! ===== the reference's methods: best, deeper ===== -/
theorem gf_p2 {t : Nat} (h : t ≤ 12) : (1 : Int32) <<< (nI t &&& 31) = nI (2 ^ t) := by
  rcases (show t = 0 ∨ t = 1 ∨ t = 2 ∨ t = 3 ∨ t = 4 ∨ t = 5 ∨ t = 6 ∨ t = 7 ∨ t = 8 ∨ t = 9 ∨ t = 10 ∨ t = 11 ∨ t = 12 by omega) with rfl | rfl | rfl | rfl | rfl | rfl | rfl | rfl | rfl | rfl | rfl | rfl | rfl <;> decide
theorem gf_p2b {t : Nat} (h : t ≤ 12) : 1 ≤ 2 ^ t ∧ 2 ^ t ≤ 4096 := by
  rcases (show t = 0 ∨ t = 1 ∨ t = 2 ∨ t = 3 ∨ t = 4 ∨ t = 5 ∨ t = 6 ∨ t = 7 ∨ t = 8 ∨ t = 9 ∨ t = 10 ∨ t = 11 ∨ t = 12 by omega) with rfl | rfl | rfl | rfl | rfl | rfl | rfl | rfl | rfl | rfl | rfl | rfl | rfl <;> decide
set_option maxRecDepth 100000 in
theorem gl_Rf_best {budget minds what most worst : Int32} {n t : Nat} (ok : gf_ok w n) (em : most = nI t) (ht : t ≤ 12) (hw : (1 < what ∧ worst = 1) ∨ (¬ 1 < what ∧ worst = 0)) (v0 : Int32 × Int32) (h : K (some (.int (if what - what / 2 * 2 = 0 then (gp_it (gf_beS w budget minds worst (w 95 1) n) 1 (2 ^ t - 1) v0).1 else (gp_it (gf_beS w budget minds worst (w 95 1) n) 1 (2 ^ t - 1) v0).2))) (gv w u q)) : gp_Go l G (d + 5) m_Rf_best K 76 [some (.ref 95), some (.int budget), some (.int minds), some (.int what), some (.int most), some (.int v0.1), some (.int v0.2), some (.int 1), none, none] [] (gv w u q) 0 0 := by
  have hp2 := gf_p2b ht
  refine gp_iter (P := fun j s => ∀ x, x = nI j → gp_Go l G (d + 5) m_Rf_best K 76 [some (.ref 95), some (.int budget), some (.int minds), some (.int what), some (.int most), some (.int s.1), some (.int s.2), some (.int x), none, none] [] (gv w u q) 0 0) (gf_beS w budget minds worst (w 95 1) n) (2 ^ t) ?_ (2 ^ t - 1) 1 v0 (by omega) ?_ 1 rfl
  · intro j s hj hp x ex
    subst ex
    have hp := hp _ (gp_inc rfl)
    unfold gf_beS at hp
    have c : ¬ 1 <<< (most &&& 31) ≤ nI j := by rw [em, gf_p2 ht]; exact nI_ge hj (by omega)
    have key : ∀ cst : Int32, cst = gf_cost (w 98) (nI j) n → ¬ budget < cst → gp_Go l G (d + 5) m_Rf_best K 121 [some (.ref 95), some (.int budget), some (.int minds), some (.int what), some (.int most), some (.int s.1), some (.int s.2), some (.int (nI j)), some (.int cst), some (.int (gf_worth w (nI j) minds worst (w 95 1) n))] [] (gv w u q) 0 0 := by
      intro cst ec hb
      rw [← ec, if_neg hb] at hp
      refine gp_go od_Rf_best rfl ?_
      (repeat refine gp_gc [76] od_Rf_best rfl rfl ?_)
      by_cases b1 : gf_worth w (nI j) minds worst (w 95 1) n < s.2
      · rw [if_pos (Or.inl b1)] at hp
        refine gb_lt_t b1 ?_
        (repeat refine gp_gc [76] od_Rf_best rfl rfl ?_)
        refine gp_drop 8 ?_
        refine gp_drop 9 ?_
        exact hp
      refine gb_lt_f b1 ?_
      (repeat refine gp_gc [76] od_Rf_best rfl rfl ?_)
      by_cases b2 : gf_worth w (nI j) minds worst (w 95 1) n = s.2
      rotate_left
      · rw [if_neg (fun z => z.elim b1 (fun z => b2 z.1))] at hp
        refine gb_ne_t b2 ?_
        (repeat refine gp_gc [76] od_Rf_best rfl rfl ?_)
        refine gp_drop 8 ?_
        refine gp_drop 9 ?_
        exact hp
      refine gb_ne_f b2 ?_
      (repeat refine gp_gc [76] od_Rf_best rfl rfl ?_)
      refine sp_Rf_costOfSet (d := d + 4) ok ?_
      (repeat refine gp_gc [76] od_Rf_best rfl rfl ?_)
      by_cases b3 : gf_cost (w 98) s.1 n ≤ cst
      · rw [if_pos (Or.inr ⟨b2, b3⟩)] at hp
        refine gb_lt_f' b3 ?_
        (repeat refine gp_gc [76] od_Rf_best rfl rfl ?_)
        refine gp_drop 8 ?_
        refine gp_drop 9 ?_
        exact hp
      · rw [if_neg (fun z => z.elim b1 (fun z => b3 z.2))] at hp
        refine gb_lt_t' b3 ?_
        (repeat refine gp_gc [76] od_Rf_best rfl rfl ?_)
        refine gp_drop 8 ?_
        refine gp_drop 9 ?_
        exact hp
    refine gp_go od_Rf_best rfl ?_
    (repeat refine gp_gc [76] od_Rf_best rfl rfl ?_)
    refine gb_ge_f c ?_
    (repeat refine gp_gc [76] od_Rf_best rfl rfl ?_)
    refine sp_Rf_costOfSet (d := d + 4) ok ?_
    (repeat refine gp_gc [76] od_Rf_best rfl rfl ?_)
    by_cases b0 : budget < gf_cost (w 98) (nI j) n
    · rw [if_pos b0] at hp
      refine gb_le_f' b0 ?_
      (repeat refine gp_gc [76] od_Rf_best rfl rfl ?_)
      refine gp_drop 8 ?_
      exact hp
    refine gb_le_t' b0 ?_
    (repeat refine gp_gc [76] od_Rf_best rfl rfl ?_)
    rcases hw with ⟨hw, rfl⟩ | ⟨hw, rfl⟩
    · refine gb_le_f' hw ?_
      (repeat refine gp_gc [76] od_Rf_best rfl rfl ?_)
      refine sp_Rf_worth (d := d) ok ?_
      (repeat refine gp_gc [76, 121] od_Rf_best rfl rfl ?_)
      exact key _ rfl b0
    · refine gb_le_t' hw ?_
      (repeat refine gp_gc [76, 121] od_Rf_best rfl rfl ?_)
      refine sp_Rf_worth (d := d) ok ?_
      (repeat refine gp_gc [76, 121] od_Rf_best rfl rfl ?_)
      exact key _ rfl b0
  · intro x ex
    subst ex
    refine gp_go od_Rf_best rfl ?_
    (repeat refine gp_gc [76, 121] od_Rf_best rfl rfl ?_)
    have c : 1 <<< (most &&& 31) ≤ nI (2 ^ t) := by rw [em, gf_p2 ht]; exact Int32.le_refl _
    refine gb_ge_t c ?_
    (repeat refine gp_gc [76, 121] od_Rf_best rfl rfl ?_)
    refine And.intro (by decide) ?_
    (repeat refine gp_gc [76, 121] od_Rf_best rfl rfl ?_)
    by_cases b : what - what / 2 * 2 = 0
    · rw [if_pos b] at h
      refine gb1_ne_f b ?_
      (repeat refine gp_gc [76, 121] od_Rf_best rfl rfl ?_)
      exact h
    · rw [if_neg b] at h
      refine gb1_ne_t b ?_
      (repeat refine gp_gc [76, 121] od_Rf_best rfl rfl ?_)
      exact h
set_option maxRecDepth 100000 in
theorem sp_Rf_best {budget minds what : Int32} {n : Nat} (ok : gf_ok w n) (h1 : ∀ worst : Int32, (1 < what ∧ worst = 1) ∨ (¬ 1 < what ∧ worst = 0) → (0 ≤ budget ∧ budget ≤ 9999) ∧ (1 ≤ minds ∧ minds ≤ 63) ∧ 0 ≤ what ∧ what ≤ 3 → K (some (.int (if what - what / 2 * 2 = 0 then (gf_best w budget minds worst (w 95 1) n).1 else (gf_best w budget minds worst (w 95 1) n).2))) (gv w u q)) (h0 : ¬ ((0 ≤ budget ∧ budget ≤ 9999) ∧ (1 ≤ minds ∧ minds ≤ 63) ∧ 0 ≤ what ∧ what ≤ 3) → K (some (.int (-1))) (gv w u q)) : gp_Cal l G (d + 5) m_Rf_best [.ref 95, .int budget, .int minds, .int what] (gv w u q) K := by
  refine gp_enter od_Rf_best rfl ?_
  have hn := ok.2.1
  (repeat refine gp_gc [76] od_Rf_best rfl rfl ?_)
  refine sp_Rf_isIn (fun a1 b1 => ?_) (fun n1 => ?_)
  rotate_left
  · repeat refine gp_gc [76] od_Rf_best rfl rfl ?_
    first | refine And.intro (fun _ => ?_) (fun c => absurd rfl c) | refine And.intro (fun c => absurd rfl c) (fun _ => ?_)
    repeat refine gp_gc [76] od_Rf_best rfl rfl ?_
    exact h0 (fun z => n1 z.1)
  repeat refine gp_gc [76] od_Rf_best rfl rfl ?_
  first | refine And.intro (fun c => absurd c (by decide)) (fun _ => ?_) | refine And.intro (fun _ => ?_) (fun c => absurd c (by decide))
  repeat refine gp_gc [76] od_Rf_best rfl rfl ?_
  refine sp_Rf_isIn (fun a2 b2 => ?_) (fun n2 => ?_)
  rotate_left
  · repeat refine gp_gc [76] od_Rf_best rfl rfl ?_
    first | refine And.intro (fun _ => ?_) (fun c => absurd rfl c) | refine And.intro (fun c => absurd rfl c) (fun _ => ?_)
    repeat refine gp_gc [76] od_Rf_best rfl rfl ?_
    exact h0 (fun z => n2 z.2.1)
  repeat refine gp_gc [76] od_Rf_best rfl rfl ?_
  first | refine And.intro (fun c => absurd c (by decide)) (fun _ => ?_) | refine And.intro (fun _ => ?_) (fun c => absurd c (by decide))
  repeat refine gp_gc [76] od_Rf_best rfl rfl ?_
  refine sp_Rf_isIn (fun a3 b3 => ?_) (fun n3 => ?_)
  rotate_left
  · repeat refine gp_gc [76] od_Rf_best rfl rfl ?_
    first | refine And.intro (fun _ => ?_) (fun c => absurd rfl c) | refine And.intro (fun c => absurd rfl c) (fun _ => ?_)
    repeat refine gp_gc [76] od_Rf_best rfl rfl ?_
    exact h0 (fun z => n3 z.2.2)
  repeat refine gp_gc [76] od_Rf_best rfl rfl ?_
  first | refine And.intro (fun c => absurd c (by decide)) (fun _ => ?_) | refine And.intro (fun _ => ?_) (fun c => absurd c (by decide))
  repeat refine gp_gc [76] od_Rf_best rfl rfl ?_
  have key : ∀ (most : Int32), most = nI (min n 12) → gp_Go l G (d + 5) m_Rf_best K 50 [some (.ref 95), some (.int budget), some (.int minds), some (.int what), none, none, none, none, none, none] [.int most] (gv w u q) 0 0 := by
    intro most em
    refine gp_go od_Rf_best rfl ?_
    (repeat refine gp_gc [76] od_Rf_best rfl rfl ?_)
    by_cases b : 1 < what
    · refine gb_le_f' b ?_
      (repeat refine gp_gc [76] od_Rf_best rfl rfl ?_)
      refine sp_Rf_worth (d := d) ok ?_
      (repeat refine gp_gc [76] od_Rf_best rfl rfl ?_)
      exact gl_Rf_best ok em (by omega) (Or.inl ⟨b, rfl⟩) (0, gf_worth w 0 minds 1 (w 95 1) n) (h1 1 (Or.inl ⟨b, rfl⟩) ⟨⟨a1, b1⟩, ⟨a2, b2⟩, a3, b3⟩)
    · refine gb_le_t' b ?_
      (repeat refine gp_gc [76] od_Rf_best rfl rfl ?_)
      refine sp_Rf_worth (d := d) ok ?_
      (repeat refine gp_gc [76] od_Rf_best rfl rfl ?_)
      exact gl_Rf_best ok em (by omega) (Or.inr ⟨b, rfl⟩) (0, gf_worth w 0 minds 0 (w 95 1) n) (h1 0 (Or.inr ⟨b, rfl⟩) ⟨⟨a1, b1⟩, ⟨a2, b2⟩, a3, b3⟩)
  by_cases b : w 95 0 < 12
  · have hb : n < 12 := by
      have := b
      rw [ok.1] at this
      exact (nI_ltI (by omega) (by decide)).mp this
    refine gb_ge_f' b ?_
    (repeat refine gp_gc [50, 76] od_Rf_best rfl rfl ?_)
    exact key _ (by rw [ok.1, Nat.min_eq_left (by omega)])
  · have hb : 12 ≤ n := by
      have := b
      rw [ok.1] at this
      exact Nat.not_lt.mp (fun z => this (nI_lt z (by decide)))
    refine gb_ge_t' b ?_
    (repeat refine gp_gc [50, 76] od_Rf_best rfl rfl ?_)
    exact key _ (by rw [Nat.min_eq_right hb]; rfl)
theorem gw_gw (w : Nat → Nat → Int32) (a k : Nat) (x y : Int32) : gw (gw w a k x) a k y = gw w a k y := by
  funext b j
  by_cases hb : b = a
  · subst hb
    by_cases hj : j = k
    · simp [gw, upd, hj]
    · simp [gw, upd, hj]
  · simp [gw, hb]
theorem gw_self {w : Nat → Nat → Int32} {a k : Nat} {x : Int32} (h : w a k = x) : gw w a k x = w := by
  funext b j
  by_cases hb : b = a
  · subst hb
    by_cases hj : j = k
    · subst hj; simp [gw, upd, h]
    · simp [gw, upd, hj]
  · simp [gw, hb]
def gf_dpS (w : Nat → Nat → Int32) (k y all : Int32) (n m : Nat) (s : Int32 × Int32) : Int32 × Int32 := if s.1 < gf_count (gf_told (gw w 95 13 (nI m)) k all y n) then (gf_count (gf_told (gw w 95 13 (nI m)) k all y n), nI m) else s
set_option maxRecDepth 100000 in
theorem sp_Rf_deeper {k y : Int32} {n : Nat} (ok : gf_ok w n) (hd : w 95 13 = -1) (h1 : (0 ≤ k ∧ k ≤ 5) ∧ 0 ≤ y ∧ y ≤ 999 → K (some (.int (gp_it (gf_dpS w k y (1 <<< (w 95 0 &&& 31) - 1) n) 0 n (gf_count (gf_told w k (1 <<< (w 95 0 &&& 31) - 1) y n), -1)).2)) (gv w u q)) (h0 : ¬ ((0 ≤ k ∧ k ≤ 5) ∧ 0 ≤ y ∧ y ≤ 999) → K (some (.int (-1))) (gv w u q)) : gp_Cal l G (d + 4) m_Rf_deeper [.ref 95, .int k, .int y] (gv w u q) K := by
  refine gp_enter od_Rf_deeper rfl ?_
  (repeat refine gp_gc [41] od_Rf_deeper rfl rfl ?_)
  refine sp_Rf_isMind (fun a1 b1 => ?_) (fun n1 => ?_)
  rotate_left
  · repeat refine gp_gc [41] od_Rf_deeper rfl rfl ?_
    first | refine And.intro (fun _ => ?_) (fun c => absurd rfl c) | refine And.intro (fun c => absurd rfl c) (fun _ => ?_)
    repeat refine gp_gc [41] od_Rf_deeper rfl rfl ?_
    exact h0 (fun z => n1 z.1)
  repeat refine gp_gc [41] od_Rf_deeper rfl rfl ?_
  first | refine And.intro (fun c => absurd c (by decide)) (fun _ => ?_) | refine And.intro (fun _ => ?_) (fun c => absurd c (by decide))
  repeat refine gp_gc [41] od_Rf_deeper rfl rfl ?_
  refine sp_Rf_isIn (fun a2 b2 => ?_) (fun n2 => ?_)
  rotate_left
  · repeat refine gp_gc [41] od_Rf_deeper rfl rfl ?_
    first | refine And.intro (fun _ => ?_) (fun c => absurd rfl c) | refine And.intro (fun c => absurd rfl c) (fun _ => ?_)
    repeat refine gp_gc [41] od_Rf_deeper rfl rfl ?_
    exact h0 (fun z => n2 z.2)
  repeat refine gp_gc [41] od_Rf_deeper rfl rfl ?_
  first | refine And.intro (fun c => absurd c (by decide)) (fun _ => ?_) | refine And.intro (fun _ => ?_) (fun c => absurd c (by decide))
  repeat refine gp_gc [41] od_Rf_deeper rfl rfl ?_
  have i0 := gp_in57 a1 b1
  have h1 := h1 ⟨⟨a1, b1⟩, a2, b2⟩
  refine sp_Rf_allMarks (d := d + 3) ?_
  (repeat refine gp_gc [41] od_Rf_deeper rfl rfl ?_)
  refine sp_Rf_toldBy (d := d) ok i0 ?_
  (repeat refine gp_gc [41] od_Rf_deeper rfl rfl ?_)
  refine sp_Rf_count ?_
  (repeat refine gp_gc [41] od_Rf_deeper rfl rfl ?_)
  refine gp_iter (P := fun j s => ∀ x, x = nI j → gp_Go l G (d + 4) m_Rf_deeper K 41 [some (.ref 95), some (.int k), some (.int y), some (.int s.1), some (.int s.2), some (.int x), none] [] (gv w u q) 0 0) (gf_dpS w k y (1 <<< (w 95 0 &&& 31) - 1) n) n ?_ n 0 (gf_count (gf_told w k (1 <<< (w 95 0 &&& 31) - 1) y n), -1) (by omega) ?_ 0 rfl
  · intro j s hj hp x ex
    subst ex
    have hp := hp _ (gp_inc rfl)
    unfold gf_dpS at hp
    have ok' : gf_ok (gw w 95 13 (nI j)) n := ⟨ok.1, ok.2.1, ok.2.2⟩
    refine gp_go od_Rf_deeper rfl ?_
    (repeat refine gp_gc [41] od_Rf_deeper rfl rfl ?_)
    refine gb_ge_f (by rw [ok.1]; exact nI_ge hj (by have := ok.2.1; omega)) ?_
    (repeat refine gp_gc [41] od_Rf_deeper rfl rfl ?_)
    refine sp_Rf_allMarks (d := d + 3) (w := gw w 95 13 (nI j)) ?_
    (repeat refine gp_gc [41] od_Rf_deeper rfl rfl ?_)
    refine sp_Rf_toldBy (d := d) ok' i0 ?_
    (repeat refine gp_gc [41] od_Rf_deeper rfl rfl ?_)
    refine sp_Rf_count ?_
    (repeat refine gp_gc [41, 76] od_Rf_deeper rfl rfl ?_)
    have e : gw (gw w 95 13 (nI j)) 95 13 (-1) = w := by rw [gw_gw, gw_self hd]
    by_cases b : s.1 < gf_count (gf_told (gw w 95 13 (nI j)) k (1 <<< (w 95 0 &&& 31) - 1) y n)
    · rw [if_pos b] at hp
      have key : gp_Go l G (d + 4) m_Rf_deeper K 76 [some (.ref 95), some (.int k), some (.int y), some (.int s.1), some (.int s.2), some (.int (nI j)), some (.int (gf_count (gf_told (gw w 95 13 (nI j)) k (1 <<< (w 95 0 &&& 31) - 1) y n)))] [] (gv (gw (gw w 95 13 (nI j)) 95 13 (-1)) u q) 0 0 := by
        rw [e]
        refine gp_go od_Rf_deeper rfl ?_
        (repeat refine gp_gc [41] od_Rf_deeper rfl rfl ?_)
        refine gb_gt_t b ?_
        (repeat refine gp_gc [41] od_Rf_deeper rfl rfl ?_)
        refine gp_drop 6 ?_
        exact hp
      exact key
    · rw [if_neg b] at hp
      have key : gp_Go l G (d + 4) m_Rf_deeper K 76 [some (.ref 95), some (.int k), some (.int y), some (.int s.1), some (.int s.2), some (.int (nI j)), some (.int (gf_count (gf_told (gw w 95 13 (nI j)) k (1 <<< (w 95 0 &&& 31) - 1) y n)))] [] (gv (gw (gw w 95 13 (nI j)) 95 13 (-1)) u q) 0 0 := by
        rw [e]
        refine gp_go od_Rf_deeper rfl ?_
        (repeat refine gp_gc [41] od_Rf_deeper rfl rfl ?_)
        refine gb_gt_f b ?_
        (repeat refine gp_gc [41] od_Rf_deeper rfl rfl ?_)
        refine gp_drop 6 ?_
        exact hp
      exact key
  · intro x ex
    subst ex
    refine gp_go od_Rf_deeper rfl ?_
    (repeat refine gp_gc [41] od_Rf_deeper rfl rfl ?_)
    refine gb_ge_t (by rw [ok.1]; exact Int32.le_refl _) ?_
    (repeat refine gp_gc [41] od_Rf_deeper rfl rfl ?_)
    exact h1

end
