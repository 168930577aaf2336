section
variable {l : Launch} {G : gp_G} {d : Nat} {w : Nat → Nat → Int32} {u : Int64 × (Nat → Int64)} {q : Nat → Nat} {K : Option Value → gp_H → Prop}
/-! ===== the reference's methods: marks ===== -/
set_option maxRecDepth 100000 in
theorem sp_Rf_isIn {V : gp_H} {v a b : Int32} (h1 : a ≤ v → v ≤ b → K (some (.int 1)) V) (h0 : ¬ (a ≤ v ∧ v ≤ b) → K (some (.int 0)) V) : gp_Cal l G d m_Rf_isIn [.int v, .int a, .int b] V K := by
  refine gp_enter od_Rf_isIn rfl ?_
  (repeat refine gp_gc [] od_Rf_isIn rfl rfl ?_)
  refine And.intro (fun c1 => ?_) (fun c1 => ?_)
  · (repeat refine gp_gc [] od_Rf_isIn rfl rfl ?_)
    exact And.intro (Or.inl rfl) (h0 (fun h => absurd c1 (Int32.not_lt.mpr h.1)))
  (repeat refine gp_gc [] od_Rf_isIn rfl rfl ?_)
  refine And.intro (fun c2 => ?_) (fun c2 => ?_)
  · (repeat refine gp_gc [] od_Rf_isIn rfl rfl ?_)
    exact And.intro (Or.inl rfl) (h0 (fun h => absurd c2 (Int32.not_lt.mpr h.2)))
  (repeat refine gp_gc [] od_Rf_isIn rfl rfl ?_)
  exact And.intro (Or.inr rfl) (h1 (Int32.not_lt.mp c1) (Int32.not_lt.mp c2))
set_option maxRecDepth 100000 in
theorem sp_Rf_isMark {m : Int32} (h1 : 0 ≤ m → m ≤ w 95 0 - 1 → K (some (.int 1)) (gv w u q)) (h0 : ¬ (0 ≤ m ∧ m ≤ w 95 0 - 1) → K (some (.int 0)) (gv w u q)) : gp_Cal l G (d + 1) m_Rf_isMark [.ref 95, .int m] (gv w u q) K := by
  refine gp_enter od_Rf_isMark rfl ?_
  (repeat refine gp_gc [] od_Rf_isMark rfl rfl ?_)
  refine sp_Rf_isIn (fun a b => ?_) (fun a => ?_)
  · (repeat refine gp_gc [] od_Rf_isMark rfl rfl ?_)
    exact And.intro (Or.inr rfl) (h1 a b)
  · (repeat refine gp_gc [] od_Rf_isMark rfl rfl ?_)
    exact And.intro (Or.inl rfl) (h0 a)
abbrev gf_okMark (kind thing cost depth senses n : Int32) : Prop := (0 ≤ kind ∧ kind ≤ 6) ∧ (0 ≤ thing ∧ thing ≤ 15) ∧ (1 ≤ cost ∧ cost ≤ 99) ∧ (0 ≤ depth ∧ depth ≤ 999) ∧ (0 ≤ senses ∧ senses ≤ 15) ∧ ¬ n = 16
def gf_Rmark (w : Nat → Nat → Int32) (kind thing cost depth senses : Int32) : Nat → Nat → Int32 :=
  gw (gw (gw (gw (gw (gw (gw (gw w 96 (w 95 0).toNatClampNeg kind) 97 (w 95 0).toNatClampNeg thing) 98 (w 95 0).toNatClampNeg cost) 99 (w 95 0).toNatClampNeg depth) 100 (w 95 0).toNatClampNeg senses) 103 (2 * w 95 0).toNatClampNeg (-1)) 103 (2 * w 95 0 + 1).toNatClampNeg (-1)) 95 0 (w 95 0 + 1)
set_option maxRecDepth 100000 in
theorem sp_Rf_mark {kind thing cost depth senses : Int32} (hn : ¬ w 95 0 = 16 → vp_in (w 95 0) 16 ∧ vp_in (2 * w 95 0) 32 ∧ vp_in (2 * w 95 0 + 1) 32) (h1 : gf_okMark kind thing cost depth senses (w 95 0) → K (some (.int (w 95 0))) (gv (gf_Rmark w kind thing cost depth senses) u q)) (h0 : ¬ gf_okMark kind thing cost depth senses (w 95 0) → K (some (.int (-1))) (gv w u q)) : gp_Cal l G (d + 1) m_Rf_mark [.ref 95, .int kind, .int thing, .int cost, .int depth, .int senses] (gv w u q) K := by
  refine gp_enter od_Rf_mark rfl ?_
  (repeat refine gp_gc [] od_Rf_mark rfl rfl ?_)
  refine sp_Rf_isIn (fun a1 b1 => ?_) (fun n1 => ?_)
  rotate_left
  · (repeat refine gp_gc [] od_Rf_mark rfl rfl ?_)
    refine And.intro (fun c => ?_) (fun c => ?_)
    · (repeat refine gp_gc [] od_Rf_mark rfl rfl ?_)
      exact h0 (fun h => n1 h.1)
    · exact absurd rfl c
  (repeat refine gp_gc [] od_Rf_mark rfl rfl ?_)
  refine And.intro (fun c => ?_) (fun c => ?_)
  · exact absurd c (by decide)
  (repeat refine gp_gc [] od_Rf_mark rfl rfl ?_)
  refine sp_Rf_isIn (fun a2 b2 => ?_) (fun n1 => ?_)
  rotate_left
  · (repeat refine gp_gc [] od_Rf_mark rfl rfl ?_)
    refine And.intro (fun c => ?_) (fun c => ?_)
    · (repeat refine gp_gc [] od_Rf_mark rfl rfl ?_)
      exact h0 (fun h => n1 h.2.1)
    · exact absurd rfl c
  (repeat refine gp_gc [] od_Rf_mark rfl rfl ?_)
  refine And.intro (fun c => ?_) (fun c => ?_)
  · exact absurd c (by decide)
  (repeat refine gp_gc [] od_Rf_mark rfl rfl ?_)
  refine sp_Rf_isIn (fun a3 b3 => ?_) (fun n1 => ?_)
  rotate_left
  · (repeat refine gp_gc [] od_Rf_mark rfl rfl ?_)
    refine And.intro (fun c => ?_) (fun c => ?_)
    · (repeat refine gp_gc [] od_Rf_mark rfl rfl ?_)
      exact h0 (fun h => n1 h.2.2.1)
    · exact absurd rfl c
  (repeat refine gp_gc [] od_Rf_mark rfl rfl ?_)
  refine And.intro (fun c => ?_) (fun c => ?_)
  · exact absurd c (by decide)
  (repeat refine gp_gc [] od_Rf_mark rfl rfl ?_)
  refine sp_Rf_isIn (fun a4 b4 => ?_) (fun n1 => ?_)
  rotate_left
  · (repeat refine gp_gc [] od_Rf_mark rfl rfl ?_)
    refine And.intro (fun c => ?_) (fun c => ?_)
    · (repeat refine gp_gc [] od_Rf_mark rfl rfl ?_)
      exact h0 (fun h => n1 h.2.2.2.1)
    · exact absurd rfl c
  (repeat refine gp_gc [] od_Rf_mark rfl rfl ?_)
  refine And.intro (fun c => ?_) (fun c => ?_)
  · exact absurd c (by decide)
  (repeat refine gp_gc [] od_Rf_mark rfl rfl ?_)
  refine sp_Rf_isIn (fun a5 b5 => ?_) (fun n1 => ?_)
  rotate_left
  · (repeat refine gp_gc [] od_Rf_mark rfl rfl ?_)
    refine And.intro (fun c => ?_) (fun c => ?_)
    · (repeat refine gp_gc [] od_Rf_mark rfl rfl ?_)
      exact h0 (fun h => n1 h.2.2.2.2.1)
    · exact absurd rfl c
  (repeat refine gp_gc [] od_Rf_mark rfl rfl ?_)
  refine And.intro (fun c => ?_) (fun c => ?_)
  · exact absurd c (by decide)
  (repeat refine gp_gc [] od_Rf_mark rfl rfl ?_)
  refine And.intro (fun c6 => ?_) (fun c6 => ?_)
  rotate_left
  · (repeat refine gp_gc [] od_Rf_mark rfl rfl ?_)
    exact h0 (fun h => h.2.2.2.2.2 c6)
  obtain ⟨i1, i2, i3⟩ := hn c6
  (repeat refine gp_gc [] od_Rf_mark rfl rfl ?_)
  refine And.intro i1 ?_
  (repeat refine gp_gc [] od_Rf_mark rfl rfl ?_)
  refine And.intro i1 ?_
  (repeat refine gp_gc [] od_Rf_mark rfl rfl ?_)
  refine And.intro i1 ?_
  (repeat refine gp_gc [] od_Rf_mark rfl rfl ?_)
  refine And.intro i1 ?_
  (repeat refine gp_gc [] od_Rf_mark rfl rfl ?_)
  refine And.intro i1 ?_
  (repeat refine gp_gc [] od_Rf_mark rfl rfl ?_)
  refine And.intro i2 ?_
  (repeat refine gp_gc [] od_Rf_mark rfl rfl ?_)
  refine And.intro i3 ?_
  (repeat refine gp_gc [] od_Rf_mark rfl rfl ?_)
  exact h1 ⟨⟨a1, b1⟩, ⟨a2, b2⟩, ⟨a3, b3⟩, ⟨a4, b4⟩, ⟨a5, b5⟩, c6⟩
set_option maxRecDepth 100000 in
theorem sp_Rf_hard {kind v : Int32} (h1 : 0 ≤ kind ∧ kind ≤ 6 → 0 ≤ v ∧ v ≤ 99 → K (some (.int 1)) (gv (gw w 104 kind.toNatClampNeg v) u q)) (h0 : ¬ ((0 ≤ kind ∧ kind ≤ 6) ∧ (0 ≤ v ∧ v ≤ 99)) → K (some (.int 0)) (gv w u q)) : gp_Cal l G (d + 1) m_Rf_hard [.ref 95, .int kind, .int v] (gv w u q) K := by
  refine gp_enter od_Rf_hard rfl ?_
  (repeat refine gp_gc [] od_Rf_hard rfl rfl ?_)
  refine sp_Rf_isIn (fun a1 b1 => ?_) (fun n1 => ?_)
  rotate_left
  · (repeat refine gp_gc [] od_Rf_hard rfl rfl ?_)
    refine And.intro (fun c => ?_) (fun c => ?_)
    · (repeat refine gp_gc [] od_Rf_hard rfl rfl ?_)
      exact And.intro (Or.inl rfl) (h0 (fun h => n1 h.1))
    · exact absurd rfl c
  (repeat refine gp_gc [] od_Rf_hard rfl rfl ?_)
  refine And.intro (fun c => ?_) (fun c => ?_)
  · exact absurd c (by decide)
  (repeat refine gp_gc [] od_Rf_hard rfl rfl ?_)
  refine sp_Rf_isIn (fun a2 b2 => ?_) (fun n1 => ?_)
  rotate_left
  · (repeat refine gp_gc [] od_Rf_hard rfl rfl ?_)
    refine And.intro (fun c => ?_) (fun c => ?_)
    · exact absurd rfl c
    · (repeat refine gp_gc [] od_Rf_hard rfl rfl ?_)
      exact And.intro (Or.inl rfl) (h0 (fun h => n1 h.2))
  (repeat refine gp_gc [] od_Rf_hard rfl rfl ?_)
  refine And.intro (fun c => ?_) (fun c => ?_)
  · (repeat refine gp_gc [] od_Rf_hard rfl rfl ?_)
    refine And.intro (gp_inK6 a1 b1) ?_
    (repeat refine gp_gc [] od_Rf_hard rfl rfl ?_)
    exact And.intro (Or.inr rfl) (h1 ⟨a1, b1⟩ ⟨a2, b2⟩)
  · exact absurd c (by decide)
set_option maxRecDepth 100000 in
theorem sp_Rf_year {v : Int32} (h1 : 0 ≤ v ∧ v ≤ 999 → K (some (.int 1)) (gv (gw w 95 1 v) u q)) (h0 : ¬ (0 ≤ v ∧ v ≤ 999) → K (some (.int 0)) (gv w u q)) : gp_Cal l G (d + 1) m_Rf_year [.ref 95, .int v] (gv w u q) K := by
  refine gp_enter od_Rf_year rfl ?_
  (repeat refine gp_gc [] od_Rf_year rfl rfl ?_)
  refine sp_Rf_isIn (fun a1 b1 => ?_) (fun n1 => ?_)
  rotate_left
  · (repeat refine gp_gc [] od_Rf_year rfl rfl ?_)
    refine And.intro (fun c => ?_) (fun c => ?_)
    · exact absurd rfl c
    · (repeat refine gp_gc [] od_Rf_year rfl rfl ?_)
      exact And.intro (Or.inl rfl) (h0 n1)
  (repeat refine gp_gc [] od_Rf_year rfl rfl ?_)
  refine And.intro (fun c => ?_) (fun c => ?_)
  · (repeat refine gp_gc [] od_Rf_year rfl rfl ?_)
    exact And.intro (Or.inr rfl) (h1 ⟨a1, b1⟩)
  · exact absurd c (by decide)

end
