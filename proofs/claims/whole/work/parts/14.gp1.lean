section
variable {l : Launch} {G : gp_G} {d : Nat} {w : Nat → Nat → Int32} {u : Int64 × (Nat → Int64)} {q : Nat → Nat} {K : Option Value → gp_H → Prop}
/-! ===== the class's methods: marks ===== -/
theorem gw_ne {w : Nat → Nat → Int32} {a k b : Nat} {x : Int32} (h : b ≠ a) : gw w a k x b = w b := if_neg h
theorem gw_at {w : Nat → Nat → Int32} {a k j : Nat} {x : Int32} : gw w a k x a j = if j = k then x else w a j := by simp [gw, upd]
set_option maxRecDepth 100000 in
theorem sp_Gp_within {V : gp_H} {v a b : Int32} (h1 : a ≤ v → v ≤ b → K (some (.int 1)) V) (h0 : ¬ (a ≤ v ∧ v ≤ b) → K (some (.int 0)) V) : gp_Cal l G d m_Gp_within [.int v, .int a, .int b] V K := by
  refine gp_enter od_Gp_within rfl ?_
  (repeat refine gp_gc [] od_Gp_within rfl rfl ?_)
  refine And.intro (fun c1 => ?_) (fun c1 => ?_)
  · (repeat refine gp_gc [] od_Gp_within rfl rfl ?_)
    exact And.intro (Or.inl rfl) (h0 (fun h => absurd c1 (Int32.not_lt.mpr h.1)))
  (repeat refine gp_gc [] od_Gp_within rfl rfl ?_)
  refine And.intro (fun c2 => ?_) (fun c2 => ?_)
  · (repeat refine gp_gc [] od_Gp_within rfl rfl ?_)
    exact And.intro (Or.inl rfl) (h0 (fun h => absurd c2 (Int32.not_lt.mpr h.2)))
  (repeat refine gp_gc [] od_Gp_within rfl rfl ?_)
  exact And.intro (Or.inr rfl) (h1 (Int32.not_lt.mp c1) (Int32.not_lt.mp c2))
set_option maxRecDepth 100000 in
theorem sp_Gp_hard {kind v : Int32} (h1 : 0 ≤ kind ∧ kind ≤ 6 → 0 ≤ v ∧ v ≤ 99 → K (some (.int 1)) (gv (gw w 3 kind.toNatClampNeg v) u q)) (h0 : ¬ ((0 ≤ kind ∧ kind ≤ 6) ∧ (0 ≤ v ∧ v ≤ 99)) → K (some (.int 0)) (gv w u q)) : gp_Cal l G (d + 1) m_Gp_hard [.ref 0, .int kind, .int v] (gv w u q) K := by
  refine gp_enter od_Gp_hard rfl ?_
  (repeat refine gp_gc [] od_Gp_hard rfl rfl ?_)
  refine sp_Gp_within (fun a1 b1 => ?_) (fun n1 => ?_)
  rotate_left
  · repeat refine gp_gc [] od_Gp_hard rfl rfl ?_
    first | refine And.intro (fun _ => ?_) (fun c => absurd rfl c) | refine And.intro (fun c => absurd rfl c) (fun _ => ?_)
    repeat refine gp_gc [] od_Gp_hard rfl rfl ?_
    exact And.intro (Or.inl rfl) (h0 (fun h => n1 h.1))
  repeat refine gp_gc [] od_Gp_hard rfl rfl ?_
  first | refine And.intro (fun c => absurd c (by decide)) (fun _ => ?_) | refine And.intro (fun _ => ?_) (fun c => absurd c (by decide))
  repeat refine gp_gc [] od_Gp_hard rfl rfl ?_
  refine sp_Gp_within (fun a2 b2 => ?_) (fun n2 => ?_)
  rotate_left
  · repeat refine gp_gc [] od_Gp_hard rfl rfl ?_
    first | refine And.intro (fun _ => ?_) (fun c => absurd rfl c) | refine And.intro (fun c => absurd rfl c) (fun _ => ?_)
    repeat refine gp_gc [] od_Gp_hard rfl rfl ?_
    exact And.intro (Or.inl rfl) (h0 (fun h => n2 h.2))
  repeat refine gp_gc [] od_Gp_hard rfl rfl ?_
  first | refine And.intro (fun c => absurd c (by decide)) (fun _ => ?_) | refine And.intro (fun _ => ?_) (fun c => absurd c (by decide))
  repeat refine gp_gc [] od_Gp_hard rfl rfl ?_
  refine And.intro (gp_inK6 a1 b1) ?_
  (repeat refine gp_gc [] od_Gp_hard rfl rfl ?_)
  exact And.intro (Or.inr rfl) (h1 ⟨a1, b1⟩ ⟨a2, b2⟩)
set_option maxRecDepth 100000 in
theorem sp_Gp_year {v : Int32} (h1 : 0 ≤ v ∧ v ≤ 999 → K (some (.int 1)) (gv (gw w 1 4 v) u q)) (h0 : ¬ (0 ≤ v ∧ v ≤ 999) → K (some (.int 0)) (gv w u q)) : gp_Cal l G (d + 1) m_Gp_year [.ref 0, .int v] (gv w u q) K := by
  refine gp_enter od_Gp_year rfl ?_
  (repeat refine gp_gc [] od_Gp_year rfl rfl ?_)
  refine sp_Gp_within (fun a1 b1 => ?_) (fun n1 => ?_)
  rotate_left
  · repeat refine gp_gc [] od_Gp_year rfl rfl ?_
    first | refine And.intro (fun _ => ?_) (fun c => absurd rfl c) | refine And.intro (fun c => absurd rfl c) (fun _ => ?_)
    repeat refine gp_gc [] od_Gp_year rfl rfl ?_
    exact And.intro (Or.inl rfl) (h0 n1)
  repeat refine gp_gc [] od_Gp_year rfl rfl ?_
  first | refine And.intro (fun c => absurd c (by decide)) (fun _ => ?_) | refine And.intro (fun _ => ?_) (fun c => absurd c (by decide))
  repeat refine gp_gc [] od_Gp_year rfl rfl ?_
  exact And.intro (Or.inr rfl) (h1 ⟨a1, b1⟩)
set_option maxRecDepth 100000 in
theorem sp_Pl_has {m : Int32} (h1 : 0 ≤ m → m < w 1 3 → K (some (.int 1)) (gv w u q)) (h0 : ¬ (0 ≤ m ∧ m < w 1 3) → K (some (.int 0)) (gv w u q)) : gp_Cal l G (d + 0) m_Pl_has [.ref 1, .int m] (gv w u q) K := by
  refine gp_enter od_Pl_has rfl ?_
  (repeat refine gp_gc [] od_Pl_has rfl rfl ?_)
  refine And.intro (fun c1 => ?_) (fun c1 => ?_)
  · (repeat refine gp_gc [] od_Pl_has rfl rfl ?_)
    exact And.intro (Or.inl rfl) (h0 (fun h => absurd c1 (Int32.not_lt.mpr h.1)))
  (repeat refine gp_gc [] od_Pl_has rfl rfl ?_)
  refine And.intro (fun c2 => ?_) (fun c2 => ?_)
  · (repeat refine gp_gc [] od_Pl_has rfl rfl ?_)
    exact And.intro (Or.inl rfl) (h0 (fun h => absurd h.2 (Int32.not_lt.mpr c2)))
  (repeat refine gp_gc [] od_Pl_has rfl rfl ?_)
  exact And.intro (Or.inr rfl) (h1 (Int32.not_lt.mp c1) (Int32.not_le.mp c2))
def gf_Cmark (w : Nat → Nat → Int32) (kind thing cost depth senses : Int32) : Nat → Nat → Int32 :=
  gw (gw (gw (gw (gw (gw w (5 + (w 1 3).toNatClampNeg) 0 kind) (5 + (w 1 3).toNatClampNeg) 1 thing) (5 + (w 1 3).toNatClampNeg) 2 cost) (5 + (w 1 3).toNatClampNeg) 3 depth) (5 + (w 1 3).toNatClampNeg) 4 senses) 1 3 (w 1 3 + 1)
set_option maxRecDepth 100000 in
theorem sp_Gp_mark {kind thing cost depth senses : Int32} (hn : w 1 3 < 16 → vp_in (w 1 3) 16) (h1 : (0 ≤ kind ∧ kind ≤ 6) ∧ (0 ≤ thing ∧ thing ≤ 15) ∧ (1 ≤ cost ∧ cost ≤ 99) ∧ (0 ≤ depth ∧ depth ≤ 999) ∧ (0 ≤ senses ∧ senses ≤ 15) ∧ w 1 3 < 16 → K (some (.int (w 1 3 + 1 - 1))) (gv (gf_Cmark w kind thing cost depth senses) u q)) (h0 : ¬ ((0 ≤ kind ∧ kind ≤ 6) ∧ (0 ≤ thing ∧ thing ≤ 15) ∧ (1 ≤ cost ∧ cost ≤ 99) ∧ (0 ≤ depth ∧ depth ≤ 999) ∧ (0 ≤ senses ∧ senses ≤ 15) ∧ w 1 3 < 16) → K (some (.int (-1))) (gv w u q)) : gp_Cal l G (d + 1) m_Gp_mark [.ref 0, .int kind, .int thing, .int cost, .int depth, .int senses] (gv w u q) K := by
  refine gp_enter od_Gp_mark rfl ?_
  (repeat refine gp_gc [] od_Gp_mark rfl rfl ?_)
  refine sp_Gp_within (fun a1 b1 => ?_) (fun n1 => ?_)
  rotate_left
  · repeat refine gp_gc [] od_Gp_mark rfl rfl ?_
    first | refine And.intro (fun _ => ?_) (fun c => absurd rfl c) | refine And.intro (fun c => absurd rfl c) (fun _ => ?_)
    repeat refine gp_gc [] od_Gp_mark rfl rfl ?_
    ((first | refine And.intro (fun c => absurd c (by decide)) (fun _ => ?_) | refine And.intro (fun _ => ?_) (fun c => absurd c (by decide))); (repeat refine gp_gc [] od_Gp_mark rfl rfl ?_); exact h0 (fun h => n1 h.1))
  repeat refine gp_gc [] od_Gp_mark rfl rfl ?_
  first | refine And.intro (fun c => absurd c (by decide)) (fun _ => ?_) | refine And.intro (fun _ => ?_) (fun c => absurd c (by decide))
  repeat refine gp_gc [] od_Gp_mark rfl rfl ?_
  refine sp_Gp_within (fun a2 b2 => ?_) (fun n1 => ?_)
  rotate_left
  · repeat refine gp_gc [] od_Gp_mark rfl rfl ?_
    first | refine And.intro (fun _ => ?_) (fun c => absurd rfl c) | refine And.intro (fun c => absurd rfl c) (fun _ => ?_)
    repeat refine gp_gc [] od_Gp_mark rfl rfl ?_
    ((first | refine And.intro (fun c => absurd c (by decide)) (fun _ => ?_) | refine And.intro (fun _ => ?_) (fun c => absurd c (by decide))); (repeat refine gp_gc [] od_Gp_mark rfl rfl ?_); exact h0 (fun h => n1 h.2.1))
  repeat refine gp_gc [] od_Gp_mark rfl rfl ?_
  first | refine And.intro (fun c => absurd c (by decide)) (fun _ => ?_) | refine And.intro (fun _ => ?_) (fun c => absurd c (by decide))
  repeat refine gp_gc [] od_Gp_mark rfl rfl ?_
  refine sp_Gp_within (fun a3 b3 => ?_) (fun n1 => ?_)
  rotate_left
  · repeat refine gp_gc [] od_Gp_mark rfl rfl ?_
    first | refine And.intro (fun _ => ?_) (fun c => absurd rfl c) | refine And.intro (fun c => absurd rfl c) (fun _ => ?_)
    repeat refine gp_gc [] od_Gp_mark rfl rfl ?_
    ((first | refine And.intro (fun c => absurd c (by decide)) (fun _ => ?_) | refine And.intro (fun _ => ?_) (fun c => absurd c (by decide))); (repeat refine gp_gc [] od_Gp_mark rfl rfl ?_); exact h0 (fun h => n1 h.2.2.1))
  repeat refine gp_gc [] od_Gp_mark rfl rfl ?_
  first | refine And.intro (fun c => absurd c (by decide)) (fun _ => ?_) | refine And.intro (fun _ => ?_) (fun c => absurd c (by decide))
  repeat refine gp_gc [] od_Gp_mark rfl rfl ?_
  refine sp_Gp_within (fun a4 b4 => ?_) (fun n1 => ?_)
  rotate_left
  · repeat refine gp_gc [] od_Gp_mark rfl rfl ?_
    first | refine And.intro (fun _ => ?_) (fun c => absurd rfl c) | refine And.intro (fun c => absurd rfl c) (fun _ => ?_)
    repeat refine gp_gc [] od_Gp_mark rfl rfl ?_
    ((first | refine And.intro (fun c => absurd c (by decide)) (fun _ => ?_) | refine And.intro (fun _ => ?_) (fun c => absurd c (by decide))); (repeat refine gp_gc [] od_Gp_mark rfl rfl ?_); exact h0 (fun h => n1 h.2.2.2.1))
  repeat refine gp_gc [] od_Gp_mark rfl rfl ?_
  first | refine And.intro (fun c => absurd c (by decide)) (fun _ => ?_) | refine And.intro (fun _ => ?_) (fun c => absurd c (by decide))
  repeat refine gp_gc [] od_Gp_mark rfl rfl ?_
  refine sp_Gp_within (fun a5 b5 => ?_) (fun n1 => ?_)
  rotate_left
  · repeat refine gp_gc [] od_Gp_mark rfl rfl ?_
    first | refine And.intro (fun _ => ?_) (fun c => absurd rfl c) | refine And.intro (fun c => absurd rfl c) (fun _ => ?_)
    repeat refine gp_gc [] od_Gp_mark rfl rfl ?_
    ((first | refine And.intro (fun c => absurd c (by decide)) (fun _ => ?_) | refine And.intro (fun _ => ?_) (fun c => absurd c (by decide))); (repeat refine gp_gc [] od_Gp_mark rfl rfl ?_); exact h0 (fun h => n1 h.2.2.2.2.1))
  repeat refine gp_gc [] od_Gp_mark rfl rfl ?_
  first | refine And.intro (fun c => absurd c (by decide)) (fun _ => ?_) | refine And.intro (fun _ => ?_) (fun c => absurd c (by decide))
  repeat refine gp_gc [] od_Gp_mark rfl rfl ?_
  (first | refine And.intro (fun c => absurd c (by decide)) (fun _ => ?_) | refine And.intro (fun _ => ?_) (fun c => absurd c (by decide)))
  (repeat refine gp_gc [] od_Gp_mark rfl rfl ?_)
  refine And.intro (fun c6 => ?_) (fun c6 => ?_)
  rotate_left
  · (repeat refine gp_gc [] od_Gp_mark rfl rfl ?_)
    exact h0 (fun h => c6 h.2.2.2.2.2)
  have i1 := hn c6
  have hi : (w 1 3).toNatClampNeg < 16 := Nat.not_le.mp fun z => i1 (Or.inr z)
  (repeat refine gp_gc [] od_Gp_mark rfl rfl ?_)
  refine And.intro i1 ⟨_, rfl, ?_⟩
  (repeat refine gp_gc [] od_Gp_mark rfl rfl ?_)
  refine gs_put (gv_mark hi) rfl rfl ?_
  rw [gv_mark_set hi (by decide)]
  (repeat refine gp_gc [] od_Gp_mark rfl rfl ?_)
  refine gs_put (gv_mark hi) rfl rfl ?_
  rw [gv_mark_set hi (by decide)]
  (repeat refine gp_gc [] od_Gp_mark rfl rfl ?_)
  refine gs_put (gv_mark hi) rfl rfl ?_
  rw [gv_mark_set hi (by decide)]
  (repeat refine gp_gc [] od_Gp_mark rfl rfl ?_)
  refine gs_put (gv_mark hi) rfl rfl ?_
  rw [gv_mark_set hi (by decide)]
  (repeat refine gp_gc [] od_Gp_mark rfl rfl ?_)
  refine gs_put (gv_mark hi) rfl rfl ?_
  rw [gv_mark_set hi (by decide)]
  obtain ⟨w5, hw5⟩ : ∃ w5, w5 = gw (gw (gw (gw (gw w (5 + (w 1 3).toNatClampNeg) 0 kind) (5 + (w 1 3).toNatClampNeg) 1 thing) (5 + (w 1 3).toNatClampNeg) 2 cost) (5 + (w 1 3).toNatClampNeg) 3 depth) (5 + (w 1 3).toNatClampNeg) 4 senses := ⟨_, rfl⟩
  have e5 : w5 1 = w 1 := by
    have hne : (1 : Nat) ≠ 5 + (w 1 3).toNatClampNeg := by omega
    rw [hw5, gw_ne hne, gw_ne hne, gw_ne hne, gw_ne hne, gw_ne hne]
  have h2 := h1 ⟨⟨a1, b1⟩, ⟨a2, b2⟩, ⟨a3, b3⟩, ⟨a4, b4⟩, ⟨a5, b5⟩, c6⟩
  unfold gf_Cmark at h2
  rw [← hw5, ← e5] at h2
  rw [← hw5]
  clear hw5
  (repeat refine gp_gc [] od_Gp_mark rfl rfl ?_)
  exact h2

end
