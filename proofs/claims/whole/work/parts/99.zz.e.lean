section
variable {l : Launch} {G : gp_G} {d : Nat} {w : Nat → Nat → Int32} {u : Int64 × (Nat → Int64)} {q : Nat → Nat} {K : Option Value → gp_H → Prop}
/-! ===== one call of both: mind ===== -/
theorem gE_34 {w W : Nat → Nat → Int32} (h : ∀ b, b ≠ 95 → gK b ≠ 0 → gK b ≠ 3 → gK b ≠ 4 → W b = w b) (h2 : ∀ k, gKf k ≠ 0 → gKf k ≠ 3 → W 95 k = w 95 k) : ∃ H, gE 3 w H ∧ gE 4 H W := by
  refine ⟨fun b => if gK b = 4 then w b else W b, ⟨fun b h1 h3 h4 => ?_, fun k h3 h4 => ?_⟩, ⟨fun b h1 h3 h4 => ?_, fun k h3 h4 => ?_⟩⟩
  · show (if gK b = 4 then w b else W b) = w b
    by_cases z : gK b = 4
    · rw [if_pos z]
    · rw [if_neg z]
      exact h b h1 h3 h4 z
  · exact h2 k h3 h4
  · show W b = if gK b = 4 then w b else W b
    rw [if_neg h4]
  · rfl
theorem gp_ma_d {m m' : Nat} (hm : m < 7) (hm' : m' < 7) (h : m ≠ m') {j j' : Nat} (hj : j ≤ 4) (hj' : j' ≤ 4) : gp_ma m + j ≠ gp_ma m' + j' := by
  rcases (show m = 0 ∨ m = 1 ∨ m = 2 ∨ m = 3 ∨ m = 4 ∨ m = 5 ∨ m = 6 by omega) with rfl | rfl | rfl | rfl | rfl | rfl | rfl <;> rcases (show m' = 0 ∨ m' = 1 ∨ m' = 2 ∨ m' = 3 ∨ m' = 4 ∨ m' = 5 ∨ m' = 6 by omega) with rfl | rfl | rfl | rfl | rfl | rfl | rfl <;> first | exact absurd rfl h | (simp only [gp_ma]; omega)
/-- the class's mind and then the reference's: all but tape and minds stays -/
theorem gMF_34 {m : Nat} {w W X : Nat → Nat → Int32} (hm : m < 7) (h1 : gMF m w W) (h2 : gm_F W X) : (∀ b, b ≠ 95 → gK b ≠ 0 → gK b ≠ 3 → gK b ≠ 4 → X b = w b) ∧ ∀ k, gKf k ≠ 0 → gKf k ≠ 3 → X 95 k = w 95 k := by
  have ma : ∀ b, gK b ≠ 4 → ∀ j, j ≤ 4 → b ≠ gp_ma m + j := fun b hb j hj z => by
    apply hb
    have := gp_ma_n hm j hj
    have l := (gp_ma_b hm j hj).2.2.2.1
    unfold gK
    rw [z, if_neg (by omega), if_neg (by omega), if_neg (by omega), if_pos (by omega)]
  constructor
  · intro b h95 b0 b3 b4
    have e4 : b < 107 ∨ 122 < b := by
      rcases Nat.lt_or_ge b 107 with z | z
      · exact Or.inl z
      · rcases Nat.lt_or_ge 122 b with y | y
        · exact Or.inr y
        · exfalso
          have key : ∀ b, b < 123 → 107 ≤ b → gK b = 0 ∨ gK b = 3 ∨ gK b = 4 := by decide
          rcases key b (by omega) z with k | k | k
          · exact b0 k
          · exact b3 k
          · exact b4 k
    have n55 : b ≠ 55 := fun z => b3 (by rw [z]; decide)
    have n57 : b ≠ 57 := fun z => b0 (by rw [z]; decide)
    have n58 : b ≠ 58 := fun z => b0 (by rw [z]; decide)
    have n59 : b ≠ 59 := fun z => b0 (by rw [z]; decide)
    rw [h2.1 b h95 e4, h1 b n55 n57 n58 n59 (ma b b4)]
  · intro k k0 k3
    have key : ∀ k, k < 66 → gKf k ≠ 0 → gKf k ≠ 3 → gy_f k = false ∧ k ≠ 33 ∧ k ≠ 40 ∧ k ≠ 42 := by decide
    have hk : k < 66 := by
      rcases Nat.lt_or_ge k 66 with z | z
      · exact z
      · exfalso
        apply k0
        unfold gKf
        rw [if_neg (by omega), if_neg (by omega), if_neg (by omega), if_neg (by omega), if_neg (by omega), if_neg (by omega)]
    have c := key k hk k0 k3
    rw [h2.2 k c.1 c.2.1 c.2.2.1 c.2.2.2, h1 95 (by decide) (by decide) (by decide) (by decide) (ma 95 (by decide))]

end
