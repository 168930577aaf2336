set_option maxRecDepth 100000 in
theorem sp_Rf_isIn (l : Launch) (G : gp_G) (d : Nat) (V : gp_H) (v a b : Int32) (K : Option Value → gp_H → Prop) (h1 : a ≤ v → v ≤ b → K (some (.int 1)) V) (h0 : ¬ (a ≤ v ∧ v ≤ b) → K (some (.int 0)) V) : gp_Cal l G d m_Rf_isIn [.int v, .int a, .int b] V K := by
  refine gp_enter od_Rf_isIn rfl ?_
  repeat refine gp_go od_Rf_isIn rfl ?_
  trace_state
  sorry
