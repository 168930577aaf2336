/-! ===== what the tables say: written by wip/whole/gen/gen2.py ===== -/
theorem gp_mg {w : Cond} (h : w ∈ lw_tbl) (g : goodWord w = true) : w ∈ gp_ws := List.mem_filter.mpr ⟨h, g⟩
theorem gp_in0 {w : Cond} {i : Nat} (h : lw_privs[i]?.map (fun q => Cond.selects q.1.cls q.1 q.1) = some w) (g : goodWord w = true) : w ∈ gp_ws := gp_mg (List.mem_append_left _ (by
  obtain ⟨q, h1, h2⟩ := Option.map_eq_some_iff.mp h
  exact List.mem_map.mpr ⟨q, List.mem_of_getElem? h1, h2⟩)) g
theorem gp_in1 {w : Cond} {i : Nat} (h : tables_1_1[i]? = some w) (g : goodWord w = true) : w ∈ gp_ws := gp_mg (List.mem_append_right _ (List.mem_append_left _ (List.mem_of_getElem? h))) g
theorem gp_in2 {w : Cond} {i : Nat} (h : tables_1_2[i]? = some w) (g : goodWord w = true) : w ∈ gp_ws := gp_mg (List.mem_append_right _ (List.mem_append_right _ (List.mem_append_left _ (List.mem_of_getElem? h)))) g
theorem gp_in3 {w : Cond} {i : Nat} (h : tables_1_3[i]? = some w) (g : goodWord w = true) : w ∈ gp_ws := gp_mg (List.mem_append_right _ (List.mem_append_right _ (List.mem_append_right _ (List.mem_append_left _ (List.mem_of_getElem? h))))) g
theorem gp_in4 {w : Cond} {i : Nat} (h : tables_1_4[i]? = some w) (g : goodWord w = true) : w ∈ gp_ws := gp_mg (List.mem_append_right _ (List.mem_append_right _ (List.mem_append_right _ (List.mem_append_right _ (List.mem_append_left _ (List.mem_of_getElem? h)))))) g
theorem gp_in5 {w : Cond} {i : Nat} (h : tables_1_5[i]? = some w) (g : goodWord w = true) : w ∈ gp_ws := gp_mg (List.mem_append_right _ (List.mem_append_right _ (List.mem_append_right _ (List.mem_append_right _ (List.mem_append_right _ (List.mem_append_left _ (List.mem_of_getElem? h))))))) g
theorem gp_in6 {w : Cond} {i : Nat} (h : tables_1_6[i]? = some w) (g : goodWord w = true) : w ∈ gp_ws := gp_mg (List.mem_append_right _ (List.mem_append_right _ (List.mem_append_right _ (List.mem_append_right _ (List.mem_append_right _ (List.mem_append_right _ (List.mem_append_left _ (List.mem_of_getElem? h)))))))) g
theorem gp_in7 {w : Cond} {i : Nat} (h : tables_1_7[i]? = some w) (g : goodWord w = true) : w ∈ gp_ws := gp_mg (List.mem_append_right _ (List.mem_append_right _ (List.mem_append_right _ (List.mem_append_right _ (List.mem_append_right _ (List.mem_append_right _ (List.mem_append_right _ (List.mem_append_left _ (List.mem_of_getElem? h))))))))) g
theorem gp_in8 {w : Cond} {i : Nat} (h : tables_1_8[i]? = some w) (g : goodWord w = true) : w ∈ gp_ws := gp_mg (List.mem_append_right _ (List.mem_append_right _ (List.mem_append_right _ (List.mem_append_right _ (List.mem_append_right _ (List.mem_append_right _ (List.mem_append_right _ (List.mem_append_right _ (List.mem_of_getElem? h))))))))) g
theorem gp_mc0 : ∀ w ∈ ([] : List Cond), w ∈ gp_ws := fun _ h => absurd h List.not_mem_nil
theorem gp_mc1 {a : Cond} {l : List Cond} (h : a ∈ gp_ws) (t : ∀ w ∈ l, w ∈ gp_ws) : ∀ w ∈ a :: l, w ∈ gp_ws := List.forall_mem_cons.mpr ⟨h, t⟩
theorem gp_mm {l l2 : List Cond} (h : ∀ w ∈ l, w ∈ gp_ws) (w : Cond) (hw : w ∈ l2) (e : l2 = l := by rfl) : w ∈ gp_ws := h w (e ▸ hw)
def gp_tg : FieldType → Nat
  | .int => 0
  | .boolean => 1
  | .long => 2
  | .object _ => 3
  | .array _ => 3
  | _ => 9
def gp_flp (own : String) (r : Nat × Nat × Nat × Nat × Bool) : Prop := ∃ (C : String) (T : u_T) (N : Nat) (ty : Nat → FieldType), gp_cl[r.2.1]? = some (C, T, N) ∧ gp_tyl[r.2.1]? = some ty ∧ r.2.2.1 < N ∧ Cond.fieldLink own r.1 (T r.2.2.1).1 (T r.2.2.1).2.1 (T r.2.2.1).2.2.1 ∈ gp_ws ∧ gp_tg (ty r.2.2.1) = r.2.2.2.1 ∧ (T r.2.2.1).2.2.2 = r.2.2.2.2
def gp_okp (M : gp_M) : Prop := (M.1.cls ≠ "java/lang/invoke/MethodHandle" ∧ M.1.cls ≠ "java/lang/invoke/VarHandle" ∧ (parseMethodDescriptor M.1.desc).map (fun d => d.parameters.length) = some (gp_np M)) ∧ Cond.code M.1 M.2.1 M.2.2.1 M.2.2.2.1 ∈ gp_ws ∧ M.2.2.1 ≤ 45 ∧ gp_on[gp_o M]? = some M.1.cls ∧ Cond.initialized M.1.cls ∈ gp_ws
def gp_xlp (own : String) (r : Nat × Nat) : Prop := (r.2 = 0 ∧ Cond.methodLink own r.1 Lib.Math.max.name ∈ gp_ws) ∨ (r.2 = 1 ∧ Cond.methodLink own r.1 Lib.Math.min.name ∈ gp_ws) ∨ (r.2 = 2 ∧ Cond.methodLink own r.1 Lib.Math.abs.name ∈ gp_ws)
def gp_mlp (own : String) (r : Nat × Nat × gp_M) : Prop := gp_okp r.2.2 ∧
  ((r.2.1 = 0 ∧ Cond.methodLink own r.1 r.2.2.1 ∈ gp_ws ∧ Cond.instanceMethod r.2.2.1 ∈ gp_ws ∧ Cond.selects r.2.2.1.cls r.2.2.1 r.2.2.1 ∈ gp_ws) ∨
   (r.2.1 = 1 ∧ Cond.methodLink own r.1 r.2.2.1 ∈ gp_ws ∧ Cond.static r.2.2.1 ∈ gp_ws) ∨
   (r.2.1 = 2 ∧ Cond.methodLink own r.1 r.2.2.1 ∈ gp_ws ∧ Cond.instanceMethod r.2.2.1 ∈ gp_ws ∧ r.2.2.1.name = "<init>" ∧ r.2.2.2.2.2.1 = none) ∨
   (r.2.1 = 3 ∧ (own, r.1, r.2.2.1, "GoldPlate") ∈ gp_nw ∧ Cond.instanceMethod r.2.2.1 ∈ gp_ws ∧ Cond.selects r.2.2.1.cls r.2.2.1 r.2.2.1 ∈ gp_ws) ∨
   (r.2.1 = 4 ∧ (own, r.1, r.2.2.1, "GoldPlate") ∈ gp_nw ∧ Cond.static r.2.2.1 ∈ gp_ws) ∨
   (r.2.1 = 5 ∧ (own, r.1, r.2.2.1, "GoldPlate") ∈ gp_nw ∧ Cond.instanceMethod r.2.2.1 ∈ gp_ws ∧ r.2.2.1.name = "<init>" ∧ r.2.2.2.2.2.1 = none))
