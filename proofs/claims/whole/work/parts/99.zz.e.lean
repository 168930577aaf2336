section
variable {l : Launch} {G : gp_G} {d : Nat} {w : Nat → Nat → Int32} {u : Int64 × (Nat → Int64)} {q : Nat → Nat} {K : Option Value → gp_H → Prop}
/-! ===== one call of both: mind ===== -/
theorem gE_34 {w W : Nat → Nat → Int32} (h : ∀ b, b ≠ 95 → gK b ≠ 0 → gK b ≠ 3 → gK b ≠ 4 → W b = w b) (h2 : ∀ k, gKf k ≠ 0 → gKf k ≠ 3 → W 95 k = w 95 k) : ∃ H, gE 3 w H ∧ gE 4 H W := by
  refine ⟨fun b => if gK b = 4 then w b else W b, ⟨fun b h1 h3 h4 => ?_, fun k h3 h4 => ?_⟩, ⟨fun b h1 h3 h4 => ?_, fun k h3 h4 => ?_⟩⟩
  · show (if gK b = 4 then w b else W b) = w b
    by_cases z : gK b = 4
    · rw [if_pos z]
    · rw [if_neg z]
      exact h b h1 h3 h4 z
  · exact h2 k h3 h4
  · show W b = if gK b = 4 then w b else W b
    rw [if_neg h4]
  · rfl

end
