def gp_cP (ci : Nat) (q : vw_C) : Prop := ∃ ty : Nat → FieldType, gp_tyl[ci]? = some ty ∧ (∀ w ∈ u_ws q.1 q.2.1 q.2.2, w ∈ gp_ws) ∧ (∀ k, k < q.2.2 → parseFieldDescriptor (q.2.1 k).2.2.1 = some (ty k)) ∧ (∀ a, a < q.2.2 → ∀ b, b < q.2.2 → a ≠ b → (q.2.1 a).2.1 ≠ (q.2.1 b).2.1) ∧ (∀ k, k < q.2.2 → defaultValue (ty k) = (gp_df ci).getD k .null) ∧ (∀ k, k < q.2.2 → (q.2.1 k).1 = q.1) ∧ Cond.instantiable q.1 q.2.2 ∈ gp_ws ∧ Cond.initialized q.1 ∈ gp_ws ∧ (gp_df ci).length = q.2.2 ∧ gp_on[ci]? = some q.1
set_option maxRecDepth 100000 in
theorem gp_fA : ∀ (o : Nat) (own : String), gp_on[o]? = some own → ∀ r ∈ gp_fl o, gp_flp own r
  | 0, _, h => by
    cases h
    exact gp_fw0
  | 1, _, h => by
    cases h
    exact gp_fw1
  | 2, _, h => by
    cases h
    exact gp_fw2
  | 3, _, h => by
    cases h
    exact gp_fw3
  | 4, _, h => by
    cases h
    exact gp_fw4
  | 5, _, h => by
    cases h
    exact gp_fw5
  | 6, _, h => by
    cases h
    exact gp_fw6
  | 7, _, h => by
    cases h
    exact gp_fw7
  | 8, _, h => by
    cases h
    exact gp_fw8
  | 9, _, h => by
    cases h
    exact gp_fw9
  | 10, _, h => by
    cases h
    exact gp_fw10
  | 11, _, h => by
    cases h
    exact gp_fw11
  | 12, _, h => by
    cases h
    exact gp_fw12
  | 13, _, h => fun r hr => absurd hr List.not_mem_nil
  | 14, _, h => fun r hr => absurd hr List.not_mem_nil
  | 15, _, h => fun r hr => absurd hr List.not_mem_nil
  | 16, _, h => fun r hr => absurd hr List.not_mem_nil
  | 17, _, h => fun r hr => absurd hr List.not_mem_nil
  | 18, _, h => fun r hr => absurd hr List.not_mem_nil
  | n + 19, _, h => by simp [gp_on] at h
set_option maxRecDepth 100000 in
theorem gp_mA : ∀ (o : Nat) (own : String), gp_on[o]? = some own → ∀ r ∈ gp_ml o, gp_mlp own r
  | 0, _, h => by
    cases h
    exact gp_mw0
  | 1, _, h => by
    cases h
    exact gp_mw1
  | 2, _, h => fun r hr => absurd hr List.not_mem_nil
  | 3, _, h => by
    cases h
    exact gp_mw3
  | 4, _, h => by
    cases h
    exact gp_mw4
  | 5, _, h => by
    cases h
    exact gp_mw5
  | 6, _, h => by
    cases h
    exact gp_mw6
  | 7, _, h => by
    cases h
    exact gp_mw7
  | 8, _, h => by
    cases h
    exact gp_mw8
  | 9, _, h => by
    cases h
    exact gp_mw9
  | 10, _, h => by
    cases h
    exact gp_mw10
  | 11, _, h => by
    cases h
    exact gp_mw11
  | 12, _, h => by
    cases h
    exact gp_mw12
  | 13, _, h => by
    cases h
    exact gp_mw13
  | 14, _, h => fun r hr => absurd hr List.not_mem_nil
  | 15, _, h => fun r hr => absurd hr List.not_mem_nil
  | 16, _, h => by
    cases h
    exact gp_mw16
  | 17, _, h => by
    cases h
    exact gp_mw17
  | 18, _, h => fun r hr => absurd hr List.not_mem_nil
  | n + 19, _, h => by simp [gp_on] at h
set_option maxRecDepth 100000 in
theorem gp_xA : ∀ (o : Nat) (own : String), gp_on[o]? = some own → ∀ r ∈ gp_xl o, gp_xlp own r
  | 0, _, h => fun r hr => absurd hr List.not_mem_nil
  | 1, _, h => by
    cases h
    exact gp_xw1
  | 2, _, h => fun r hr => absurd hr List.not_mem_nil
  | 3, _, h => by
    cases h
    exact gp_xw3
  | 4, _, h => fun r hr => absurd hr List.not_mem_nil
  | 5, _, h => by
    cases h
    exact gp_xw5
  | 6, _, h => by
    cases h
    exact gp_xw6
  | 7, _, h => by
    cases h
    exact gp_xw7
  | 8, _, h => fun r hr => absurd hr List.not_mem_nil
  | 9, _, h => fun r hr => absurd hr List.not_mem_nil
  | 10, _, h => by
    cases h
    exact gp_xw10
  | 11, _, h => fun r hr => absurd hr List.not_mem_nil
  | 12, _, h => fun r hr => absurd hr List.not_mem_nil
  | 13, _, h => fun r hr => absurd hr List.not_mem_nil
  | 14, _, h => fun r hr => absurd hr List.not_mem_nil
  | 15, _, h => fun r hr => absurd hr List.not_mem_nil
  | 16, _, h => fun r hr => absurd hr List.not_mem_nil
  | 17, _, h => by
    cases h
    exact gp_xw17
  | 18, _, h => fun r hr => absurd hr List.not_mem_nil
  | n + 19, _, h => by simp [gp_on] at h
set_option maxRecDepth 100000 in
theorem gp_oA : ∀ (o : Nat) (own : String), gp_on[o]? = some own → ∀ r ∈ gp_ol o, Cond.methodLink own r.1 ⟨"java/lang/Object", "<init>", "()V"⟩ ∈ gp_ws
  | 0, _, h => by
    cases h
    exact gp_ow0
  | 1, _, h => by
    cases h
    exact gp_ow1
  | 2, _, h => by
    cases h
    exact gp_ow2
  | 3, _, h => by
    cases h
    exact gp_ow3
  | 4, _, h => by
    cases h
    exact gp_ow4
  | 5, _, h => by
    cases h
    exact gp_ow5
  | 6, _, h => by
    cases h
    exact gp_ow6
  | 7, _, h => by
    cases h
    exact gp_ow7
  | 8, _, h => by
    cases h
    exact gp_ow8
  | 9, _, h => by
    cases h
    exact gp_ow9
  | 10, _, h => by
    cases h
    exact gp_ow10
  | 11, _, h => by
    cases h
    exact gp_ow11
  | 12, _, h => by
    cases h
    exact gp_ow12
  | 13, _, h => fun r hr => absurd hr List.not_mem_nil
  | 14, _, h => fun r hr => absurd hr List.not_mem_nil
  | 15, _, h => fun r hr => absurd hr List.not_mem_nil
  | 16, _, h => fun r hr => absurd hr List.not_mem_nil
  | 17, _, h => fun r hr => absurd hr List.not_mem_nil
  | 18, _, h => fun r hr => absurd hr List.not_mem_nil
  | n + 19, _, h => by simp [gp_on] at h
set_option maxRecDepth 100000 in
theorem gp_nA : ∀ (o : Nat) (own : String), gp_on[o]? = some own → ∀ r ∈ gp_nl o, ∃ q, gp_cl[r.2]? = some q ∧ Cond.classLink own r.1 q.1 ∈ gp_ws
  | 0, _, h => fun r hr => absurd hr List.not_mem_nil
  | 1, _, h => fun r hr => absurd hr List.not_mem_nil
  | 2, _, h => fun r hr => absurd hr List.not_mem_nil
  | 3, _, h => fun r hr => absurd hr List.not_mem_nil
  | 4, _, h => by
    cases h
    exact gp_nw4
  | 5, _, h => by
    cases h
    exact gp_nw5
  | 6, _, h => fun r hr => absurd hr List.not_mem_nil
  | 7, _, h => fun r hr => absurd hr List.not_mem_nil
  | 8, _, h => fun r hr => absurd hr List.not_mem_nil
  | 9, _, h => fun r hr => absurd hr List.not_mem_nil
  | 10, _, h => fun r hr => absurd hr List.not_mem_nil
  | 11, _, h => by
    cases h
    exact gp_nw11
  | 12, _, h => fun r hr => absurd hr List.not_mem_nil
  | 13, _, h => by
    cases h
    exact gp_nw13
  | 14, _, h => fun r hr => absurd hr List.not_mem_nil
  | 15, _, h => fun r hr => absurd hr List.not_mem_nil
  | 16, _, h => fun r hr => absurd hr List.not_mem_nil
  | 17, _, h => fun r hr => absurd hr List.not_mem_nil
  | 18, _, h => fun r hr => absurd hr List.not_mem_nil
  | n + 19, _, h => by simp [gp_on] at h
set_option maxRecDepth 100000 in
theorem gp_aA : ∀ (o : Nat) (own : String), gp_on[o]? = some own → ∀ r ∈ gp_al o, ∃ q, gp_cl[r.2 - 2]? = some q ∧ (r.2 = 4 ∨ r.2 = 5) ∧ Cond.classLink own r.1 q.1 ∈ gp_ws
  | 0, _, h => fun r hr => absurd hr List.not_mem_nil
  | 1, _, h => fun r hr => absurd hr List.not_mem_nil
  | 2, _, h => fun r hr => absurd hr List.not_mem_nil
  | 3, _, h => fun r hr => absurd hr List.not_mem_nil
  | 4, _, h => by
    cases h
    exact gp_aw4
  | 5, _, h => by
    cases h
    exact gp_aw5
  | 6, _, h => fun r hr => absurd hr List.not_mem_nil
  | 7, _, h => fun r hr => absurd hr List.not_mem_nil
  | 8, _, h => fun r hr => absurd hr List.not_mem_nil
  | 9, _, h => fun r hr => absurd hr List.not_mem_nil
  | 10, _, h => fun r hr => absurd hr List.not_mem_nil
  | 11, _, h => by
    cases h
    exact gp_aw11
  | 12, _, h => fun r hr => absurd hr List.not_mem_nil
  | 13, _, h => fun r hr => absurd hr List.not_mem_nil
  | 14, _, h => fun r hr => absurd hr List.not_mem_nil
  | 15, _, h => fun r hr => absurd hr List.not_mem_nil
  | 16, _, h => fun r hr => absurd hr List.not_mem_nil
  | 17, _, h => fun r hr => absurd hr List.not_mem_nil
  | 18, _, h => fun r hr => absurd hr List.not_mem_nil
  | n + 19, _, h => by simp [gp_on] at h
set_option maxRecDepth 100000 in
theorem gp_kA : ∀ (o : Nat) (own : String), gp_on[o]? = some own → ∀ r ∈ gp_kl o, Cond.constant own r.1 r.2 ∈ gp_ws
  | 0, _, h => fun r hr => absurd hr List.not_mem_nil
  | 1, _, h => fun r hr => absurd hr List.not_mem_nil
  | 2, _, h => fun r hr => absurd hr List.not_mem_nil
  | 3, _, h => fun r hr => absurd hr List.not_mem_nil
  | 4, _, h => fun r hr => absurd hr List.not_mem_nil
  | 5, _, h => fun r hr => absurd hr List.not_mem_nil
  | 6, _, h => fun r hr => absurd hr List.not_mem_nil
  | 7, _, h => fun r hr => absurd hr List.not_mem_nil
  | 8, _, h => fun r hr => absurd hr List.not_mem_nil
  | 9, _, h => fun r hr => absurd hr List.not_mem_nil
  | 10, _, h => fun r hr => absurd hr List.not_mem_nil
  | 11, _, h => by
    cases h
    exact gp_kw11
  | 12, _, h => by
    cases h
    exact gp_kw12
  | 13, _, h => fun r hr => absurd hr List.not_mem_nil
  | 14, _, h => fun r hr => absurd hr List.not_mem_nil
  | 15, _, h => by
    cases h
    exact gp_kw15
  | 16, _, h => fun r hr => absurd hr List.not_mem_nil
  | 17, _, h => fun r hr => absurd hr List.not_mem_nil
  | 18, _, h => fun r hr => absurd hr List.not_mem_nil
  | n + 19, _, h => by simp [gp_on] at h
set_option maxRecDepth 100000 in
theorem gp_LA : ∀ (o : Nat) (own : String), gp_on[o]? = some own → ∀ r ∈ gp_Ll o, Cond.constantLong own r.1 r.2 ∈ gp_ws
  | 0, _, h => fun r hr => absurd hr List.not_mem_nil
  | 1, _, h => fun r hr => absurd hr List.not_mem_nil
  | 2, _, h => fun r hr => absurd hr List.not_mem_nil
  | 3, _, h => fun r hr => absurd hr List.not_mem_nil
  | 4, _, h => fun r hr => absurd hr List.not_mem_nil
  | 5, _, h => fun r hr => absurd hr List.not_mem_nil
  | 6, _, h => fun r hr => absurd hr List.not_mem_nil
  | 7, _, h => by
    cases h
    exact gp_Lw7
  | 8, _, h => fun r hr => absurd hr List.not_mem_nil
  | 9, _, h => fun r hr => absurd hr List.not_mem_nil
  | 10, _, h => fun r hr => absurd hr List.not_mem_nil
  | 11, _, h => fun r hr => absurd hr List.not_mem_nil
  | 12, _, h => by
    cases h
    exact gp_Lw12
  | 13, _, h => fun r hr => absurd hr List.not_mem_nil
  | 14, _, h => fun r hr => absurd hr List.not_mem_nil
  | 15, _, h => fun r hr => absurd hr List.not_mem_nil
  | 16, _, h => fun r hr => absurd hr List.not_mem_nil
  | 17, _, h => fun r hr => absurd hr List.not_mem_nil
  | 18, _, h => fun r hr => absurd hr List.not_mem_nil
  | n + 19, _, h => by simp [gp_on] at h
theorem gp_sw4 : ∀ r ∈ gp_sl 4, ∃ tx, gp_sr[r.2]? = some ("GoldPlate$Parser", r.1, tx) := List.forall_mem_cons.mpr ⟨⟨_, rfl⟩, List.forall_mem_cons.mpr ⟨⟨_, rfl⟩, List.forall_mem_cons.mpr ⟨⟨_, rfl⟩, fun _ h => absurd h List.not_mem_nil⟩⟩⟩
theorem gp_sw12 : ∀ r ∈ gp_sl 12, ∃ tx, gp_sr[r.2]? = some ("GoldPlateModel", r.1, tx) := List.forall_mem_cons.mpr ⟨⟨_, rfl⟩, List.forall_mem_cons.mpr ⟨⟨_, rfl⟩, List.forall_mem_cons.mpr ⟨⟨_, rfl⟩, List.forall_mem_cons.mpr ⟨⟨_, rfl⟩, List.forall_mem_cons.mpr ⟨⟨_, rfl⟩, List.forall_mem_cons.mpr ⟨⟨_, rfl⟩, List.forall_mem_cons.mpr ⟨⟨_, rfl⟩, List.forall_mem_cons.mpr ⟨⟨_, rfl⟩, List.forall_mem_cons.mpr ⟨⟨_, rfl⟩, List.forall_mem_cons.mpr ⟨⟨_, rfl⟩, List.forall_mem_cons.mpr ⟨⟨_, rfl⟩, List.forall_mem_cons.mpr ⟨⟨_, rfl⟩, List.forall_mem_cons.mpr ⟨⟨_, rfl⟩, List.forall_mem_cons.mpr ⟨⟨_, rfl⟩, List.forall_mem_cons.mpr ⟨⟨_, rfl⟩, List.forall_mem_cons.mpr ⟨⟨_, rfl⟩, List.forall_mem_cons.mpr ⟨⟨_, rfl⟩, List.forall_mem_cons.mpr ⟨⟨_, rfl⟩, List.forall_mem_cons.mpr ⟨⟨_, rfl⟩, List.forall_mem_cons.mpr ⟨⟨_, rfl⟩, List.forall_mem_cons.mpr ⟨⟨_, rfl⟩, List.forall_mem_cons.mpr ⟨⟨_, rfl⟩, fun _ h => absurd h List.not_mem_nil⟩⟩⟩⟩⟩⟩⟩⟩⟩⟩⟩⟩⟩⟩⟩⟩⟩⟩⟩⟩⟩⟩
set_option maxRecDepth 100000 in
theorem gp_sA : ∀ (o : Nat) (own : String), gp_on[o]? = some own → ∀ r ∈ gp_sl o, ∃ tx, gp_sr[r.2]? = some (own, r.1, tx)
  | 0, _, h => fun r hr => absurd hr List.not_mem_nil
  | 1, _, h => fun r hr => absurd hr List.not_mem_nil
  | 2, _, h => fun r hr => absurd hr List.not_mem_nil
  | 3, _, h => fun r hr => absurd hr List.not_mem_nil
  | 4, _, h => by
    cases h
    exact gp_sw4
  | 5, _, h => fun r hr => absurd hr List.not_mem_nil
  | 6, _, h => fun r hr => absurd hr List.not_mem_nil
  | 7, _, h => fun r hr => absurd hr List.not_mem_nil
  | 8, _, h => fun r hr => absurd hr List.not_mem_nil
  | 9, _, h => fun r hr => absurd hr List.not_mem_nil
  | 10, _, h => fun r hr => absurd hr List.not_mem_nil
  | 11, _, h => fun r hr => absurd hr List.not_mem_nil
  | 12, _, h => by
    cases h
    exact gp_sw12
  | 13, _, h => fun r hr => absurd hr List.not_mem_nil
  | 14, _, h => fun r hr => absurd hr List.not_mem_nil
  | 15, _, h => fun r hr => absurd hr List.not_mem_nil
  | 16, _, h => fun r hr => absurd hr List.not_mem_nil
  | 17, _, h => fun r hr => absurd hr List.not_mem_nil
  | 18, _, h => fun r hr => absurd hr List.not_mem_nil
  | n + 19, _, h => by simp [gp_on] at h
theorem gp_zw16 : ∀ r ∈ gp_zl 16, (r.2 = 0 ∧ Cond.fieldLink "java/lang/String" r.1 "java/lang/String" "COMPACT_STRINGS" "Z" ∈ gp_ws) ∨ (r.2 = 1 ∧ Cond.fieldLink "java/lang/String" r.1 "jdk/internal/util/Preconditions" "SIOOBE_FORMATTER" "Ljava/util/function/BiFunction;" ∈ gp_ws) := List.forall_mem_cons.mpr ⟨Or.inl ⟨rfl, gp_zw0⟩, List.forall_mem_cons.mpr ⟨Or.inr ⟨rfl, gp_zw1⟩, fun _ h => absurd h List.not_mem_nil⟩⟩
theorem gp_vw16 : ∀ r ∈ gp_vl 16, (r.2 = 0 ∧ Cond.fieldLink "java/lang/String" r.1 "java/lang/String" "value" "[B" ∈ gp_ws) ∨ (r.2 = 1 ∧ Cond.fieldLink "java/lang/String" r.1 "java/lang/String" "coder" "B" ∈ gp_ws) := List.forall_mem_cons.mpr ⟨Or.inl ⟨rfl, gp_vw0⟩, List.forall_mem_cons.mpr ⟨Or.inr ⟨rfl, gp_vw1⟩, fun _ h => absurd h List.not_mem_nil⟩⟩
set_option maxRecDepth 100000 in
theorem gp_zA : ∀ (o : Nat) (own : String), gp_on[o]? = some own → ∀ r ∈ gp_zl o, (r.2 = 0 ∧ Cond.fieldLink own r.1 "java/lang/String" "COMPACT_STRINGS" "Z" ∈ gp_ws) ∨ (r.2 = 1 ∧ Cond.fieldLink own r.1 "jdk/internal/util/Preconditions" "SIOOBE_FORMATTER" "Ljava/util/function/BiFunction;" ∈ gp_ws)
  | 0, _, h => fun r hr => absurd hr List.not_mem_nil
  | 1, _, h => fun r hr => absurd hr List.not_mem_nil
  | 2, _, h => fun r hr => absurd hr List.not_mem_nil
  | 3, _, h => fun r hr => absurd hr List.not_mem_nil
  | 4, _, h => fun r hr => absurd hr List.not_mem_nil
  | 5, _, h => fun r hr => absurd hr List.not_mem_nil
  | 6, _, h => fun r hr => absurd hr List.not_mem_nil
  | 7, _, h => fun r hr => absurd hr List.not_mem_nil
  | 8, _, h => fun r hr => absurd hr List.not_mem_nil
  | 9, _, h => fun r hr => absurd hr List.not_mem_nil
  | 10, _, h => fun r hr => absurd hr List.not_mem_nil
  | 11, _, h => fun r hr => absurd hr List.not_mem_nil
  | 12, _, h => fun r hr => absurd hr List.not_mem_nil
  | 13, _, h => fun r hr => absurd hr List.not_mem_nil
  | 14, _, h => fun r hr => absurd hr List.not_mem_nil
  | 15, _, h => fun r hr => absurd hr List.not_mem_nil
  | 16, _, h => by
    cases h
    exact gp_zw16
  | 17, _, h => fun r hr => absurd hr List.not_mem_nil
  | 18, _, h => fun r hr => absurd hr List.not_mem_nil
  | n + 19, _, h => by simp [gp_on] at h
set_option maxRecDepth 100000 in
theorem gp_vA : ∀ (o : Nat) (own : String), gp_on[o]? = some own → ∀ r ∈ gp_vl o, (r.2 = 0 ∧ Cond.fieldLink own r.1 "java/lang/String" "value" "[B" ∈ gp_ws) ∨ (r.2 = 1 ∧ Cond.fieldLink own r.1 "java/lang/String" "coder" "B" ∈ gp_ws)
  | 0, _, h => fun r hr => absurd hr List.not_mem_nil
  | 1, _, h => fun r hr => absurd hr List.not_mem_nil
  | 2, _, h => fun r hr => absurd hr List.not_mem_nil
  | 3, _, h => fun r hr => absurd hr List.not_mem_nil
  | 4, _, h => fun r hr => absurd hr List.not_mem_nil
  | 5, _, h => fun r hr => absurd hr List.not_mem_nil
  | 6, _, h => fun r hr => absurd hr List.not_mem_nil
  | 7, _, h => fun r hr => absurd hr List.not_mem_nil
  | 8, _, h => fun r hr => absurd hr List.not_mem_nil
  | 9, _, h => fun r hr => absurd hr List.not_mem_nil
  | 10, _, h => fun r hr => absurd hr List.not_mem_nil
  | 11, _, h => fun r hr => absurd hr List.not_mem_nil
  | 12, _, h => fun r hr => absurd hr List.not_mem_nil
  | 13, _, h => fun r hr => absurd hr List.not_mem_nil
  | 14, _, h => fun r hr => absurd hr List.not_mem_nil
  | 15, _, h => fun r hr => absurd hr List.not_mem_nil
  | 16, _, h => by
    cases h
    exact gp_vw16
  | 17, _, h => fun r hr => absurd hr List.not_mem_nil
  | 18, _, h => fun r hr => absurd hr List.not_mem_nil
  | n + 19, _, h => by simp [gp_on] at h
theorem gp_cty0 : ∀ k, k < 2 → parseFieldDescriptor (gp_T0 k).2.2.1 = some (gp_t0 k) := by decide +kernel
theorem gp_cnm0 : ∀ a, a < 2 → ∀ b, b < 2 → a ≠ b → (gp_T0 a).2.1 ≠ (gp_T0 b).2.1 := by decide +kernel
theorem gp_cdf0 : ∀ k, k < 2 → defaultValue (gp_t0 k) = (gp_df 0).getD k .null := by decide +kernel
theorem gp_cow0 : ∀ k, k < 2 → (gp_T0 k).1 = "GoldPlate$BitRow" := by decide +kernel
theorem gp_cA0 : gp_cP 0 ("GoldPlate$BitRow", gp_T0, 2) := ⟨gp_t0, rfl, gp_cin0, gp_cty0, gp_cnm0, gp_cdf0, gp_cow0, gp_cins0, gp_cini0, rfl, rfl⟩
theorem gp_cty1 : ∀ k, k < 12 → parseFieldDescriptor (gp_T1 k).2.2.1 = some (gp_t1 k) := by decide +kernel
theorem gp_cnm1 : ∀ a, a < 12 → ∀ b, b < 12 → a ≠ b → (gp_T1 a).2.1 ≠ (gp_T1 b).2.1 := by decide +kernel
theorem gp_cdf1 : ∀ k, k < 12 → defaultValue (gp_t1 k) = (gp_df 1).getD k .null := by decide +kernel
theorem gp_cow1 : ∀ k, k < 12 → (gp_T1 k).1 = "GoldPlate$Chooser" := by decide +kernel
theorem gp_cA1 : gp_cP 1 ("GoldPlate$Chooser", gp_T1, 12) := ⟨gp_t1, rfl, gp_cin1, gp_cty1, gp_cnm1, gp_cdf1, gp_cow1, gp_cins1, gp_cini1, rfl, rfl⟩
theorem gp_cty2 : ∀ k, k < 9 → parseFieldDescriptor (gp_T2 k).2.2.1 = some (gp_t2 k) := by decide +kernel
theorem gp_cnm2 : ∀ a, a < 9 → ∀ b, b < 9 → a ≠ b → (gp_T2 a).2.1 ≠ (gp_T2 b).2.1 := by decide +kernel
theorem gp_cdf2 : ∀ k, k < 9 → defaultValue (gp_t2 k) = (gp_df 2).getD k .null := by decide +kernel
theorem gp_cow2 : ∀ k, k < 9 → (gp_T2 k).1 = "GoldPlate$Mark" := by decide +kernel
theorem gp_cA2 : gp_cP 2 ("GoldPlate$Mark", gp_T2, 9) := ⟨gp_t2, rfl, gp_cin2, gp_cty2, gp_cnm2, gp_cdf2, gp_cow2, gp_cins2, gp_cini2, rfl, rfl⟩
theorem gp_cty3 : ∀ k, k < 14 → parseFieldDescriptor (gp_T3 k).2.2.1 = some (gp_t3 k) := by decide +kernel
theorem gp_cnm3 : ∀ a, a < 14 → ∀ b, b < 14 → a ≠ b → (gp_T3 a).2.1 ≠ (gp_T3 b).2.1 := by decide +kernel
theorem gp_cdf3 : ∀ k, k < 14 → defaultValue (gp_t3 k) = (gp_df 3).getD k .null := by decide +kernel
theorem gp_cow3 : ∀ k, k < 14 → (gp_T3 k).1 = "GoldPlate$Mind" := by decide +kernel
theorem gp_cA3 : gp_cP 3 ("GoldPlate$Mind", gp_T3, 14) := ⟨gp_t3, rfl, gp_cin3, gp_cty3, gp_cnm3, gp_cdf3, gp_cow3, gp_cins3, gp_cini3, rfl, rfl⟩
theorem gp_cty4 : ∀ k, k < 10 → parseFieldDescriptor (gp_T4 k).2.2.1 = some (gp_t4 k) := by decide +kernel
theorem gp_cnm4 : ∀ a, a < 10 → ∀ b, b < 10 → a ≠ b → (gp_T4 a).2.1 ≠ (gp_T4 b).2.1 := by decide +kernel
theorem gp_cdf4 : ∀ k, k < 10 → defaultValue (gp_t4 k) = (gp_df 4).getD k .null := by decide +kernel
theorem gp_cow4 : ∀ k, k < 10 → (gp_T4 k).1 = "GoldPlate$Parser" := by decide +kernel
theorem gp_cA4 : gp_cP 4 ("GoldPlate$Parser", gp_T4, 10) := ⟨gp_t4, rfl, gp_cin4, gp_cty4, gp_cnm4, gp_cdf4, gp_cow4, gp_cins4, gp_cini4, rfl, rfl⟩
theorem gp_cty5 : ∀ k, k < 5 → parseFieldDescriptor (gp_T5 k).2.2.1 = some (gp_t5 k) := by decide +kernel
theorem gp_cnm5 : ∀ a, a < 5 → ∀ b, b < 5 → a ≠ b → (gp_T5 a).2.1 ≠ (gp_T5 b).2.1 := by decide +kernel
theorem gp_cdf5 : ∀ k, k < 5 → defaultValue (gp_t5 k) = (gp_df 5).getD k .null := by decide +kernel
theorem gp_cow5 : ∀ k, k < 5 → (gp_T5 k).1 = "GoldPlate$Plate" := by decide +kernel
theorem gp_cA5 : gp_cP 5 ("GoldPlate$Plate", gp_T5, 5) := ⟨gp_t5, rfl, gp_cin5, gp_cty5, gp_cnm5, gp_cdf5, gp_cow5, gp_cins5, gp_cini5, rfl, rfl⟩
theorem gp_cty6 : ∀ k, k < 13 → parseFieldDescriptor (gp_T6 k).2.2.1 = some (gp_t6 k) := by decide +kernel
theorem gp_cnm6 : ∀ a, a < 13 → ∀ b, b < 13 → a ≠ b → (gp_T6 a).2.1 ≠ (gp_T6 b).2.1 := by decide +kernel
theorem gp_cdf6 : ∀ k, k < 13 → defaultValue (gp_t6 k) = (gp_df 6).getD k .null := by decide +kernel
theorem gp_cow6 : ∀ k, k < 13 → (gp_T6 k).1 = "GoldPlate$Search" := by decide +kernel
theorem gp_cA6 : gp_cP 6 ("GoldPlate$Search", gp_T6, 13) := ⟨gp_t6, rfl, gp_cin6, gp_cty6, gp_cnm6, gp_cdf6, gp_cow6, gp_cins6, gp_cini6, rfl, rfl⟩
theorem gp_cty7 : ∀ k, k < 13 → parseFieldDescriptor (gp_T7 k).2.2.1 = some (gp_t7 k) := by decide +kernel
theorem gp_cnm7 : ∀ a, a < 13 → ∀ b, b < 13 → a ≠ b → (gp_T7 a).2.1 ≠ (gp_T7 b).2.1 := by decide +kernel
theorem gp_cdf7 : ∀ k, k < 13 → defaultValue (gp_t7 k) = (gp_df 7).getD k .null := by decide +kernel
theorem gp_cow7 : ∀ k, k < 13 → (gp_T7 k).1 = "GoldPlate$Sky" := by decide +kernel
theorem gp_cA7 : gp_cP 7 ("GoldPlate$Sky", gp_T7, 13) := ⟨gp_t7, rfl, gp_cin7, gp_cty7, gp_cnm7, gp_cdf7, gp_cow7, gp_cins7, gp_cini7, rfl, rfl⟩
theorem gp_cty8 : ∀ k, k < 3 → parseFieldDescriptor (gp_T8 k).2.2.1 = some (gp_t8 k) := by decide +kernel
theorem gp_cnm8 : ∀ a, a < 3 → ∀ b, b < 3 → a ≠ b → (gp_T8 a).2.1 ≠ (gp_T8 b).2.1 := by decide +kernel
theorem gp_cdf8 : ∀ k, k < 3 → defaultValue (gp_t8 k) = (gp_df 8).getD k .null := by decide +kernel
theorem gp_cow8 : ∀ k, k < 3 → (gp_T8 k).1 = "GoldPlate$Sums" := by decide +kernel
theorem gp_cA8 : gp_cP 8 ("GoldPlate$Sums", gp_T8, 3) := ⟨gp_t8, rfl, gp_cin8, gp_cty8, gp_cnm8, gp_cdf8, gp_cow8, gp_cins8, gp_cini8, rfl, rfl⟩
theorem gp_cty9 : ∀ k, k < 4 → parseFieldDescriptor (gp_T9 k).2.2.1 = some (gp_t9 k) := by decide +kernel
theorem gp_cnm9 : ∀ a, a < 4 → ∀ b, b < 4 → a ≠ b → (gp_T9 a).2.1 ≠ (gp_T9 b).2.1 := by decide +kernel
theorem gp_cdf9 : ∀ k, k < 4 → defaultValue (gp_t9 k) = (gp_df 9).getD k .null := by decide +kernel
theorem gp_cow9 : ∀ k, k < 4 → (gp_T9 k).1 = "GoldPlate$Trials" := by decide +kernel
theorem gp_cA9 : gp_cP 9 ("GoldPlate$Trials", gp_T9, 4) := ⟨gp_t9, rfl, gp_cin9, gp_cty9, gp_cnm9, gp_cdf9, gp_cow9, gp_cins9, gp_cini9, rfl, rfl⟩
theorem gp_cty10 : ∀ k, k < 3 → parseFieldDescriptor (gp_T10 k).2.2.1 = some (gp_t10 k) := by decide +kernel
theorem gp_cnm10 : ∀ a, a < 3 → ∀ b, b < 3 → a ≠ b → (gp_T10 a).2.1 ≠ (gp_T10 b).2.1 := by decide +kernel
theorem gp_cdf10 : ∀ k, k < 3 → defaultValue (gp_t10 k) = (gp_df 10).getD k .null := by decide +kernel
theorem gp_cow10 : ∀ k, k < 3 → (gp_T10 k).1 = "GoldPlate$Widths" := by decide +kernel
theorem gp_cA10 : gp_cP 10 ("GoldPlate$Widths", gp_T10, 3) := ⟨gp_t10, rfl, gp_cin10, gp_cty10, gp_cnm10, gp_cdf10, gp_cow10, gp_cins10, gp_cini10, rfl, rfl⟩
theorem gp_cty11 : ∀ k, k < 13 → parseFieldDescriptor (gp_T11 k).2.2.1 = some (gp_t11 k) := by decide +kernel
theorem gp_cnm11 : ∀ a, a < 13 → ∀ b, b < 13 → a ≠ b → (gp_T11 a).2.1 ≠ (gp_T11 b).2.1 := by decide +kernel
theorem gp_cdf11 : ∀ k, k < 13 → defaultValue (gp_t11 k) = (gp_df 11).getD k .null := by decide +kernel
theorem gp_cow11 : ∀ k, k < 13 → (gp_T11 k).1 = "GoldPlate" := by decide +kernel
theorem gp_cA11 : gp_cP 11 ("GoldPlate", gp_T11, 13) := ⟨gp_t11, rfl, gp_cin11, gp_cty11, gp_cnm11, gp_cdf11, gp_cow11, gp_cins11, gp_cini11, rfl, rfl⟩
theorem gp_cty12 : ∀ k, k < 70 → parseFieldDescriptor (gp_T12 k).2.2.1 = some (gp_t12 k) := by decide +kernel
theorem gp_cnm12 : ∀ a, a < 70 → ∀ b, b < 70 → a ≠ b → (gp_T12 a).2.1 ≠ (gp_T12 b).2.1 := by decide +kernel
theorem gp_cdf12 : ∀ k, k < 70 → defaultValue (gp_t12 k) = (gp_df 12).getD k .null := by decide +kernel
theorem gp_cow12 : ∀ k, k < 70 → (gp_T12 k).1 = "GoldPlateModel" := by decide +kernel
theorem gp_cA12 : gp_cP 12 ("GoldPlateModel", gp_T12, 70) := ⟨gp_t12, rfl, gp_cin12, gp_cty12, gp_cnm12, gp_cdf12, gp_cow12, gp_cins12, gp_cini12, rfl, rfl⟩
set_option maxRecDepth 100000 in
theorem gp_cA : ∀ (ci : Nat) (q : vw_C), gp_cl[ci]? = some q → gp_cP ci q
  | 0, _, h => by
    cases h
    exact gp_cA0
  | 1, _, h => by
    cases h
    exact gp_cA1
  | 2, _, h => by
    cases h
    exact gp_cA2
  | 3, _, h => by
    cases h
    exact gp_cA3
  | 4, _, h => by
    cases h
    exact gp_cA4
  | 5, _, h => by
    cases h
    exact gp_cA5
  | 6, _, h => by
    cases h
    exact gp_cA6
  | 7, _, h => by
    cases h
    exact gp_cA7
  | 8, _, h => by
    cases h
    exact gp_cA8
  | 9, _, h => by
    cases h
    exact gp_cA9
  | 10, _, h => by
    cases h
    exact gp_cA10
  | 11, _, h => by
    cases h
    exact gp_cA11
  | 12, _, h => by
    cases h
    exact gp_cA12
  | n + 13, _, h => by simp [gp_cl] at h
