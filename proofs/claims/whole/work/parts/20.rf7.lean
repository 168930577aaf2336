section
variable {l : Launch} {G : gp_G} {d : Nat} {w : Nat → Nat → Int32} {u : Int64 × (Nat → Int64)} {q : Nat → Nat} {K : Option Value → gp_H → Prop}
/-! ===== the reference's methods: of, beats, tape, bits ===== -/
def gf_chF (k : Nat) (w : Nat → Nat → Int32) : Nat → Nat → Int32 := gw w 106 k (gf_chV (w 101 k) (w 106) k)
theorem gf_chF_ne : ∀ (k i : Nat) (w : Nat → Nat → Int32) (a : Nat), a ≠ 106 → gp_it gf_chF i k w a = w a
  | 0, _, _, _, _ => rfl
  | k + 1, i, w, a, h => by
    rw [gp_it, gf_chF_ne k (i + 1) _ a h, gf_chF, gw_ne h]
theorem gf_left_eq {w W : Nat → Nat → Int32} {m y : Int32} (h : ∀ a, a ≠ 106 → W a = w a) : gf_left W m y = gf_left w m y := by
  unfold gf_left gf_depth
  rw [h 95 (by decide), h 99 (by decide), h 104 (by decide), h 96 (by decide)]
theorem gf_depth_eq {w W : Nat → Nat → Int32} {m : Int32} (h : ∀ a, a ≠ 106 → W a = w a) : gf_depth W m = gf_depth w m := by
  unfold gf_depth
  rw [h 95 (by decide), h 99 (by decide)]
theorem gf_w2 {x : Int32} (h0 : 0 ≤ x) (h1 : x ≤ 2) : x = 0 ∨ x = 1 ∨ x = 2 := by
  obtain ⟨j, hj, rfl⟩ := nI_of2 (n := 2) (M := 2) rfl (Int32.not_lt.mpr h0) h1
  rcases (show j = 0 ∨ j = 1 ∨ j = 2 by omega) with rfl | rfl | rfl
  · exact Or.inl rfl
  · exact Or.inr (Or.inl rfl)
  · exact Or.inr (Or.inr rfl)
set_option maxRecDepth 100000 in
theorem sp_Rf_of {m what : Int32} {n : Nat} (ok : gf_ok w n) (h0 : ¬ ((0 ≤ m ∧ m ≤ w 95 0 - 1) ∧ 0 ≤ what ∧ what ≤ 2) → K (some (.int (-1000000))) (gv w u q)) (hA : ∀ i, i < n → m = nI i → what = 0 → K (some (.int (gf_left w m (w 95 1)))) (gv (gp_it gf_chF 0 (i + 1) w) u q)) (hB : ∀ i, i < n → m = nI i → what = 1 → K (some (.int (if gf_left w m (w 95 1) ≤ 0 then 2 else if gf_left w m (w 95 1) < gf_depth w m / 2 then 1 else 0))) (gv (gp_it gf_chF 0 (i + 1) w) u q)) (hC : ∀ i, i < n → m = nI i → what = 2 → K (some (.int (gp_it gf_chF 0 (i + 1) w 106 i))) (gv (gp_it gf_chF 0 (i + 1) w) u q)) : gp_Cal l G (d + 3) m_Rf_of [.ref 95, .int m, .int what] (gv w u q) K := by
  refine gp_enter od_Rf_of rfl ?_
  (repeat refine gp_gc [22] od_Rf_of rfl rfl ?_)
  refine sp_Rf_isMark (fun a1 b1 => ?_) (fun n1 => ?_)
  rotate_left
  · repeat refine gp_gc [22] od_Rf_of rfl rfl ?_
    first | refine And.intro (fun _ => ?_) (fun c => absurd rfl c) | refine And.intro (fun c => absurd rfl c) (fun _ => ?_)
    repeat refine gp_gc [22] od_Rf_of rfl rfl ?_
    exact h0 (fun z => n1 z.1)
  repeat refine gp_gc [22] od_Rf_of rfl rfl ?_
  first | refine And.intro (fun c => absurd c (by decide)) (fun _ => ?_) | refine And.intro (fun _ => ?_) (fun c => absurd c (by decide))
  repeat refine gp_gc [22] od_Rf_of rfl rfl ?_
  refine sp_Rf_isIn (fun a2 b2 => ?_) (fun n2 => ?_)
  rotate_left
  · repeat refine gp_gc [22] od_Rf_of rfl rfl ?_
    first | refine And.intro (fun _ => ?_) (fun c => absurd rfl c) | refine And.intro (fun c => absurd rfl c) (fun _ => ?_)
    repeat refine gp_gc [22] od_Rf_of rfl rfl ?_
    exact h0 (fun z => n2 z.2)
  repeat refine gp_gc [22] od_Rf_of rfl rfl ?_
  first | refine And.intro (fun c => absurd c (by decide)) (fun _ => ?_) | refine And.intro (fun _ => ?_) (fun c => absurd c (by decide))
  repeat refine gp_gc [22] od_Rf_of rfl rfl ?_
  obtain ⟨i, hi, em⟩ := gf_mk ok a1 b1
  have hn := ok.2.1
  refine gp_iter (P := fun j W => ∀ x, x = nI j → gp_Go l G (d + 3) m_Rf_of K 22 [some (.ref 95), some (.int m), some (.int what), some (.int x)] [] (gv W u q) 0 0) gf_chF (i + 1) ?_ (i + 1) 0 w (by omega) ?_ 0 rfl
  · intro j W hj hp x ex
    subst ex
    have hp := hp _ (gp_inc rfl)
    have ec : (nI j).toNatClampNeg = j := nI_clamp (by omega)
    refine gp_go od_Rf_of rfl ?_
    (repeat refine gp_gc [22] od_Rf_of rfl rfl ?_)
    refine gb_gt_f (by rw [em]; exact nI_nlt (by omega) (by omega)) ?_
    (repeat refine gp_gc [22] od_Rf_of rfl rfl ?_)
    refine sp_Rf_chain (d := d + 2) (w := W) rfl (by omega) ?_
    (repeat refine gp_gc [22] od_Rf_of rfl rfl ?_)
    refine And.intro (vp_in_nI (by omega) (by decide)) ?_
    (repeat refine gp_gc [22] od_Rf_of rfl rfl ?_)
    rw [ec]
    exact hp
  · intro x ex
    subst ex
    have hW : ∀ a, a ≠ 106 → gp_it gf_chF 0 (i + 1) w a = w a := gf_chF_ne (i + 1) 0 w
    have hA := hA i hi em
    have hB := hB i hi em
    have hC := hC i hi em
    generalize gp_it gf_chF 0 (i + 1) w = W at hA hB hC hW ⊢
    have i1 : vp_in m 16 := by rw [em]; exact vp_in_nI (by omega) (by decide)
    have ec : m.toNatClampNeg = i := by rw [em]; exact nI_clamp (by omega)
    have i2 : vp_in (W 96 m.toNatClampNeg) 7 := by rw [hW 96 (by decide), ec]; exact ok.2.2 i hi
    have e1 : gf_left W m (W 95 1) = gf_left w m (w 95 1) := by rw [gf_left_eq hW, hW 95 (by decide)]
    have e2 : gf_depth W m = gf_depth w m := gf_depth_eq hW
    rw [← e1] at hA hB
    rw [← e2] at hB
    refine gp_go od_Rf_of rfl ?_
    (repeat refine gp_gc [22] od_Rf_of rfl rfl ?_)
    refine gb_gt_t (by rw [em]; exact nI_lt (by omega) (by omega)) ?_
    (repeat refine gp_gc [22] od_Rf_of rfl rfl ?_)
    rcases gf_w2 a2 b2 with rfl | rfl | rfl
    · refine gb1_ne_f rfl ?_
      (repeat refine gp_gc [22] od_Rf_of rfl rfl ?_)
      refine sp_Rf_left (d := d + 1) i1 i2 ?_
      (repeat refine gp_gc [22] od_Rf_of rfl rfl ?_)
      exact hA rfl
    · refine gb1_ne_t (by decide) ?_
      (repeat refine gp_gc [22] od_Rf_of rfl rfl ?_)
      refine gb_ne_t (by decide) ?_
      (repeat refine gp_gc [22] od_Rf_of rfl rfl ?_)
      refine sp_Rf_left (d := d + 1) i1 i2 ?_
      (repeat refine gp_gc [22] od_Rf_of rfl rfl ?_)
      by_cases b1 : gf_left W m (W 95 1) ≤ 0
      · have hB := hB rfl
        rw [if_pos b1] at hB
        refine gb1_gt_f' b1 ?_
        (repeat refine gp_gc [22] od_Rf_of rfl rfl ?_)
        exact hB
      · have hB := hB rfl
        rw [if_neg b1] at hB
        refine gb1_gt_t' b1 ?_
        (repeat refine gp_gc [22] od_Rf_of rfl rfl ?_)
        refine sp_Rf_isWorn (d := d) i1 i2 (fun z1 z2 => ?_) (fun z => ?_)
        · rw [if_pos z2] at hB
          (repeat refine gp_gc [22] od_Rf_of rfl rfl ?_)
          refine gb1_eq_f (by decide) ?_
          (repeat refine gp_gc [22] od_Rf_of rfl rfl ?_)
          exact hB
        · rw [if_neg (fun z2 => z ⟨Int32.not_le.mp b1, z2⟩)] at hB
          (repeat refine gp_gc [22] od_Rf_of rfl rfl ?_)
          refine gb1_eq_t rfl ?_
          (repeat refine gp_gc [22] od_Rf_of rfl rfl ?_)
          exact hB
    · refine gb1_ne_t (by decide) ?_
      (repeat refine gp_gc [22] od_Rf_of rfl rfl ?_)
      refine gb_ne_f rfl ?_
      (repeat refine gp_gc [22] od_Rf_of rfl rfl ?_)
      refine And.intro i1 ?_
      (repeat refine gp_gc [22] od_Rf_of rfl rfl ?_)
      rw [ec]
      exact hC rfl
abbrev gf_okB (p s x y n : Int32) : Prop := (1 ≤ p ∧ p ≤ 999999) ∧ (0 ≤ s ∧ s ≤ 9999) ∧ (0 ≤ x ∧ x ≤ 39) ∧ (0 ≤ y ∧ y ≤ 39) ∧ ¬ n = 14
def gf_Rbeat (w : Nat → Nat → Int32) (p s x y : Int32) : Nat → Nat → Int32 := gw (gw (gw (gw (gw (gw w 130 (w 95 57).toNatClampNeg p) 131 (w 95 57).toNatClampNeg s) 132 (w 95 57).toNatClampNeg x) 133 (w 95 57).toNatClampNeg y) 134 (w 95 57).toNatClampNeg (-1)) 95 57 (w 95 57 + 1)
set_option maxRecDepth 100000 in
theorem sp_Rf_beat {p s x y : Int32} (hn : ¬ w 95 57 = 14 → vp_in (w 95 57) 14) (h1 : gf_okB p s x y (w 95 57) → K (some (.int (w 95 57 + 1 - 1))) (gv (gf_Rbeat w p s x y) u q)) (h0 : ¬ gf_okB p s x y (w 95 57) → K (some (.int (-1))) (gv w u q)) : gp_Cal l G (d + 1) m_Rf_beat [.ref 95, .int p, .int s, .int x, .int y] (gv w u q) K := by
  refine gp_enter od_Rf_beat rfl ?_
  (repeat refine gp_gc [] od_Rf_beat rfl rfl ?_)
  refine sp_Rf_isIn (fun a1 b1 => ?_) (fun n1 => ?_)
  rotate_left
  · repeat refine gp_gc [] od_Rf_beat rfl rfl ?_
    first | refine And.intro (fun _ => ?_) (fun c => absurd rfl c) | refine And.intro (fun c => absurd rfl c) (fun _ => ?_)
    repeat refine gp_gc [] od_Rf_beat rfl rfl ?_
    exact h0 (fun h => n1 h.1)
  repeat refine gp_gc [] od_Rf_beat rfl rfl ?_
  first | refine And.intro (fun c => absurd c (by decide)) (fun _ => ?_) | refine And.intro (fun _ => ?_) (fun c => absurd c (by decide))
  repeat refine gp_gc [] od_Rf_beat rfl rfl ?_
  refine sp_Rf_isIn (fun a2 b2 => ?_) (fun n1 => ?_)
  rotate_left
  · repeat refine gp_gc [] od_Rf_beat rfl rfl ?_
    first | refine And.intro (fun _ => ?_) (fun c => absurd rfl c) | refine And.intro (fun c => absurd rfl c) (fun _ => ?_)
    repeat refine gp_gc [] od_Rf_beat rfl rfl ?_
    exact h0 (fun h => n1 h.2.1)
  repeat refine gp_gc [] od_Rf_beat rfl rfl ?_
  first | refine And.intro (fun c => absurd c (by decide)) (fun _ => ?_) | refine And.intro (fun _ => ?_) (fun c => absurd c (by decide))
  repeat refine gp_gc [] od_Rf_beat rfl rfl ?_
  refine sp_Rf_isIn (fun a3 b3 => ?_) (fun n1 => ?_)
  rotate_left
  · repeat refine gp_gc [] od_Rf_beat rfl rfl ?_
    first | refine And.intro (fun _ => ?_) (fun c => absurd rfl c) | refine And.intro (fun c => absurd rfl c) (fun _ => ?_)
    repeat refine gp_gc [] od_Rf_beat rfl rfl ?_
    exact h0 (fun h => n1 h.2.2.1)
  repeat refine gp_gc [] od_Rf_beat rfl rfl ?_
  first | refine And.intro (fun c => absurd c (by decide)) (fun _ => ?_) | refine And.intro (fun _ => ?_) (fun c => absurd c (by decide))
  repeat refine gp_gc [] od_Rf_beat rfl rfl ?_
  refine sp_Rf_isIn (fun a4 b4 => ?_) (fun n1 => ?_)
  rotate_left
  · repeat refine gp_gc [] od_Rf_beat rfl rfl ?_
    first | refine And.intro (fun _ => ?_) (fun c => absurd rfl c) | refine And.intro (fun c => absurd rfl c) (fun _ => ?_)
    repeat refine gp_gc [] od_Rf_beat rfl rfl ?_
    exact h0 (fun h => n1 h.2.2.2.1)
  repeat refine gp_gc [] od_Rf_beat rfl rfl ?_
  first | refine And.intro (fun c => absurd c (by decide)) (fun _ => ?_) | refine And.intro (fun _ => ?_) (fun c => absurd c (by decide))
  repeat refine gp_gc [] od_Rf_beat rfl rfl ?_
  refine And.intro (fun c6 => ?_) (fun c6 => ?_)
  rotate_left
  · (repeat refine gp_gc [] od_Rf_beat rfl rfl ?_)
    exact h0 (fun h => h.2.2.2.2 c6)
  have i1 := hn c6
  (repeat refine gp_gc [] od_Rf_beat rfl rfl ?_)
  refine And.intro i1 ?_
  (repeat refine gp_gc [] od_Rf_beat rfl rfl ?_)
  refine And.intro i1 ?_
  (repeat refine gp_gc [] od_Rf_beat rfl rfl ?_)
  refine And.intro i1 ?_
  (repeat refine gp_gc [] od_Rf_beat rfl rfl ?_)
  refine And.intro i1 ?_
  (repeat refine gp_gc [] od_Rf_beat rfl rfl ?_)
  refine And.intro i1 ?_
  (repeat refine gp_gc [] od_Rf_beat rfl rfl ?_)
  exact h1 ⟨⟨a1, b1⟩, ⟨a2, b2⟩, ⟨a3, b3⟩, ⟨a4, b4⟩, c6⟩
abbrev gf_okF (a c : Int32) : Prop := a = -1 ∨ ((0 ≤ a ∧ a ≤ 9999999) ∧ a ≤ c ∧ c ≤ 9999999)
set_option maxRecDepth 100000 in
theorem sp_Rf_found {b a c : Int32} (hn : 0 ≤ b ∧ b ≤ w 95 57 - 1 → vp_in b 14) (h1 : 0 ≤ b ∧ b ≤ w 95 57 - 1 → gf_okF a c → K (some (.int 1)) (gv (gw (gw w 134 b.toNatClampNeg a) 135 b.toNatClampNeg c) u q)) (h0 : ¬ ((0 ≤ b ∧ b ≤ w 95 57 - 1) ∧ gf_okF a c) → K (some (.int 0)) (gv w u q)) : gp_Cal l G (d + 2) m_Rf_found [.ref 95, .int b, .int a, .int c] (gv w u q) K := by
  refine gp_enter od_Rf_found rfl ?_
  (repeat refine gp_gc [] od_Rf_found rfl rfl ?_)
  refine sp_Rf_isBeat (fun a1 b1 => ?_) (fun n1 => ?_)
  rotate_left
  · repeat refine gp_gc [] od_Rf_found rfl rfl ?_
    first | refine And.intro (fun _ => ?_) (fun c => absurd rfl c) | refine And.intro (fun c => absurd rfl c) (fun _ => ?_)
    repeat refine gp_gc [] od_Rf_found rfl rfl ?_
    exact And.intro (Or.inl rfl) (h0 (fun h => n1 h.1))
  repeat refine gp_gc [] od_Rf_found rfl rfl ?_
  first | refine And.intro (fun c => absurd c (by decide)) (fun _ => ?_) | refine And.intro (fun _ => ?_) (fun c => absurd c (by decide))
  repeat refine gp_gc [] od_Rf_found rfl rfl ?_
  have i1 := hn ⟨a1, b1⟩
  by_cases b2 : a = -1
  · refine gb_eq_t b2 ?_
    (repeat refine gp_gc [] od_Rf_found rfl rfl ?_)
    refine And.intro i1 ?_
    (repeat refine gp_gc [] od_Rf_found rfl rfl ?_)
    refine And.intro i1 ?_
    (repeat refine gp_gc [] od_Rf_found rfl rfl ?_)
    exact And.intro (Or.inr rfl) (h1 ⟨a1, b1⟩ (Or.inl b2))
  refine gb_eq_f b2 ?_
  (repeat refine gp_gc [] od_Rf_found rfl rfl ?_)
  refine sp_Rf_isIn (fun a3 b3 => ?_) (fun n1 => ?_)
  rotate_left
  · repeat refine gp_gc [] od_Rf_found rfl rfl ?_
    first | refine And.intro (fun _ => ?_) (fun c => absurd rfl c) | refine And.intro (fun c => absurd rfl c) (fun _ => ?_)
    repeat refine gp_gc [] od_Rf_found rfl rfl ?_
    exact And.intro (Or.inl rfl) (h0 (fun h => h.2.elim b2 (fun h => n1 h.1)))
  repeat refine gp_gc [] od_Rf_found rfl rfl ?_
  first | refine And.intro (fun c => absurd c (by decide)) (fun _ => ?_) | refine And.intro (fun _ => ?_) (fun c => absurd c (by decide))
  repeat refine gp_gc [] od_Rf_found rfl rfl ?_
  refine sp_Rf_isIn (fun a4 b4 => ?_) (fun n1 => ?_)
  rotate_left
  · repeat refine gp_gc [] od_Rf_found rfl rfl ?_
    first | refine And.intro (fun _ => ?_) (fun c => absurd rfl c) | refine And.intro (fun c => absurd rfl c) (fun _ => ?_)
    repeat refine gp_gc [] od_Rf_found rfl rfl ?_
    exact And.intro (Or.inl rfl) (h0 (fun h => h.2.elim b2 (fun h => n1 h.2)))
  repeat refine gp_gc [] od_Rf_found rfl rfl ?_
  first | refine And.intro (fun c => absurd c (by decide)) (fun _ => ?_) | refine And.intro (fun _ => ?_) (fun c => absurd c (by decide))
  repeat refine gp_gc [] od_Rf_found rfl rfl ?_
  refine And.intro i1 ?_
  (repeat refine gp_gc [] od_Rf_found rfl rfl ?_)
  refine And.intro i1 ?_
  (repeat refine gp_gc [] od_Rf_found rfl rfl ?_)
  exact And.intro (Or.inr rfl) (h1 ⟨a1, b1⟩ (Or.inr ⟨⟨a3, b3⟩, a4, b4⟩))
set_option maxRecDepth 100000 in
theorem sp_Rf_far {b v : Int32} (hn : 0 ≤ b ∧ b ≤ w 95 57 - 1 → vp_in b 14) (h1 : 0 ≤ b ∧ b ≤ w 95 57 - 1 → 0 ≤ v ∧ v ≤ 55 → K (some (.int 1)) (gv (gw w 136 b.toNatClampNeg v) u q)) (h0 : ¬ ((0 ≤ b ∧ b ≤ w 95 57 - 1) ∧ 0 ≤ v ∧ v ≤ 55) → K (some (.int 0)) (gv w u q)) : gp_Cal l G (d + 2) m_Rf_far [.ref 95, .int b, .int v] (gv w u q) K := by
  refine gp_enter od_Rf_far rfl ?_
  (repeat refine gp_gc [] od_Rf_far rfl rfl ?_)
  refine sp_Rf_isBeat (fun a1 b1 => ?_) (fun n1 => ?_)
  rotate_left
  · repeat refine gp_gc [] od_Rf_far rfl rfl ?_
    first | refine And.intro (fun _ => ?_) (fun c => absurd rfl c) | refine And.intro (fun c => absurd rfl c) (fun _ => ?_)
    repeat refine gp_gc [] od_Rf_far rfl rfl ?_
    exact And.intro (Or.inl rfl) (h0 (fun h => n1 h.1))
  repeat refine gp_gc [] od_Rf_far rfl rfl ?_
  first | refine And.intro (fun c => absurd c (by decide)) (fun _ => ?_) | refine And.intro (fun _ => ?_) (fun c => absurd c (by decide))
  repeat refine gp_gc [] od_Rf_far rfl rfl ?_
  refine sp_Rf_isIn (fun a2 b2 => ?_) (fun n1 => ?_)
  rotate_left
  · repeat refine gp_gc [] od_Rf_far rfl rfl ?_
    first | refine And.intro (fun _ => ?_) (fun c => absurd rfl c) | refine And.intro (fun c => absurd rfl c) (fun _ => ?_)
    repeat refine gp_gc [] od_Rf_far rfl rfl ?_
    exact And.intro (Or.inl rfl) (h0 (fun h => n1 h.2))
  repeat refine gp_gc [] od_Rf_far rfl rfl ?_
  first | refine And.intro (fun c => absurd c (by decide)) (fun _ => ?_) | refine And.intro (fun _ => ?_) (fun c => absurd c (by decide))
  repeat refine gp_gc [] od_Rf_far rfl rfl ?_
  have i1 := hn ⟨a1, b1⟩
  refine And.intro i1 ?_
  (repeat refine gp_gc [] od_Rf_far rfl rfl ?_)
  exact And.intro (Or.inr rfl) (h1 ⟨a1, b1⟩ ⟨a2, b2⟩)
/-- the byte that comes as the k-th of twenty -/
def gf_byte (a b c e f : Int32) (k : Nat) : Int32 := ((if k < 4 then a else if k < 8 then b else if k < 12 then c else if k < 16 then e else f) >>> ((24 - 8 * nI (k % 4)) &&& 31)) &&& 255
def gf_feS (a b c e f : Int32) (k : Nat) (w : Nat → Nat → Int32) : Nat → Nat → Int32 := gw (gw w 118 (w 95 33).toNatClampNeg (gf_byte a b c e f k)) 95 33 (w 95 33 + 1)
theorem gf_rem4 {k : Nat} (h : k < 20) : nI k - nI k / 4 * 4 = nI (k % 4) := pk_rem (d := 4) (by omega) (by decide) (by decide)
set_option maxRecDepth 100000 in
theorem sp_Rf_feed {a b c e f : Int32} {t : Nat} (et : w 95 33 = nI t) (ht : t ≤ 500) (h0 : 500 < w 95 33 + 20 → K (some (.int (-1))) (gv w u q)) (h1 : ¬ 500 < w 95 33 + 20 → K (some (.int (gp_it (gf_feS a b c e f) 0 20 w 95 33))) (gv (gp_it (gf_feS a b c e f) 0 20 w) u q)) : gp_Cal l G (d + 0) m_Rf_feed [.ref 95, .int a, .int b, .int c, .int e, .int f] (gv w u q) K := by
  refine gp_enter od_Rf_feed rfl ?_
  (repeat refine gp_gc [18] od_Rf_feed rfl rfl ?_)
  by_cases b0 : 500 < w 95 33 + 20
  · refine gb_le_f' b0 ?_
    (repeat refine gp_gc [18] od_Rf_feed rfl rfl ?_)
    exact h0 b0
  refine gb_le_t' b0 ?_
  (repeat refine gp_gc [18] od_Rf_feed rfl rfl ?_)
  have h1 := h1 b0
  have ht2 : t + 20 ≤ 500 := by
    rw [et] at b0
    have e20 : nI t + 20 = nI (t + 20) := nI_add t 20
    rw [e20] at b0
    exact Nat.not_lt.mp (fun z => b0 (nI_lt z (by omega)))
  refine gp_iter (P := fun j W => W 95 33 = nI (t + j) → ∀ x, x = nI j → gp_Go l G (d + 0) m_Rf_feed K 18 [some (.ref 95), some (.int a), some (.int b), some (.int c), some (.int e), some (.int f), some (.int x), none] [] (gv W u q) 0 0) (gf_feS a b c e f) 20 ?_ 20 0 w (by omega) ?_ (by rw [et]; rfl) 0 rfl
  · intro j W hj hp hW x ex
    subst ex
    have hp := hp (by show W 95 33 + 1 = _; rw [hW]; exact nI_1 (t + j)) _ (gp_inc rfl)
    have i1 : vp_in (W 95 33) 500 := by rw [hW]; exact vp_in_nI (by omega) (by decide)
    have fin : ∀ v : Int32, v = (if j < 4 then a else if j < 8 then b else if j < 12 then c else if j < 16 then e else f) → gp_Go l G (d + 0) m_Rf_feed K 71 [some (.ref 95), some (.int a), some (.int b), some (.int c), some (.int e), some (.int f), some (.int (nI j)), none] [.int v] (gv W u q) 0 0 := by
      intro v ev
      unfold gf_feS gf_byte at hp
      rw [← ev, ← gf_rem4 hj] at hp
      refine gp_go od_Rf_feed rfl ?_
      (repeat refine gp_gc [18] od_Rf_feed rfl rfl ?_)
      refine And.intro (by decide) ?_
      (repeat refine gp_gc [18] od_Rf_feed rfl rfl ?_)
      refine And.intro i1 ?_
      (repeat refine gp_gc [18] od_Rf_feed rfl rfl ?_)
      refine gp_drop 7 ?_
      exact hp
    refine gp_go od_Rf_feed rfl ?_
    (repeat refine gp_gc [18, 71] od_Rf_feed rfl rfl ?_)
    refine gb_ge_f (nI_ge hj (by decide)) ?_
    (repeat refine gp_gc [18, 71] od_Rf_feed rfl rfl ?_)
    by_cases b1 : j < 4
    · refine gb_ge_f (nI_ge b1 (by decide)) ?_
      (repeat refine gp_gc [18, 71] od_Rf_feed rfl rfl ?_)
      exact fin _ (by rw [if_pos b1])
    refine gb_ge_t (nI_le (a := 4) (by omega) (by omega)) ?_
    (repeat refine gp_gc [18, 71] od_Rf_feed rfl rfl ?_)
    by_cases b2 : j < 8
    · refine gb_ge_f (nI_ge b2 (by decide)) ?_
      (repeat refine gp_gc [18, 71] od_Rf_feed rfl rfl ?_)
      exact fin _ (by rw [if_neg b1, if_pos b2])
    refine gb_ge_t (nI_le (a := 8) (by omega) (by omega)) ?_
    (repeat refine gp_gc [18, 71] od_Rf_feed rfl rfl ?_)
    by_cases b3 : j < 12
    · refine gb_ge_f (nI_ge b3 (by decide)) ?_
      (repeat refine gp_gc [18, 71] od_Rf_feed rfl rfl ?_)
      exact fin _ (by rw [if_neg b1, if_neg b2, if_pos b3])
    refine gb_ge_t (nI_le (a := 12) (by omega) (by omega)) ?_
    (repeat refine gp_gc [18, 71] od_Rf_feed rfl rfl ?_)
    by_cases b4 : j < 16
    · refine gb_ge_f (nI_ge b4 (by decide)) ?_
      (repeat refine gp_gc [18, 71] od_Rf_feed rfl rfl ?_)
      exact fin _ (by rw [if_neg b1, if_neg b2, if_neg b3, if_pos b4])
    refine gb_ge_t (nI_le (a := 16) (by omega) (by omega)) ?_
    (repeat refine gp_gc [18, 71] od_Rf_feed rfl rfl ?_)
    exact fin _ (by rw [if_neg b1, if_neg b2, if_neg b3, if_neg b4])
  · intro hW x ex
    subst ex
    refine gp_go od_Rf_feed rfl ?_
    (repeat refine gp_gc [18, 71] od_Rf_feed rfl rfl ?_)
    refine gb_ge_t (Int32.le_refl _) ?_
    (repeat refine gp_gc [18, 71] od_Rf_feed rfl rfl ?_)
    exact h1

end
