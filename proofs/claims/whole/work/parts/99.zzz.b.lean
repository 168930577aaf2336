section
variable {l : Launch} {G : gp_G} {d : Nat} {w : Nat → Nat → Int32} {u : Int64 × (Nat → Int64)} {q : Nat → Nat} {K : Option Value → gp_H → Prop}
/-! ===== the constructors: written by wip/whole/gen/gen6.py ===== -/
theorem gn_nth {P X : gp_H} {e : gp_E} : gp_nth (P ++ e :: X) P.length = some e := by
  rw [gp_nth_e]
  simp
theorem gn_set {P X : gp_H} {e e' : gp_E} : (P ++ e :: X).set P.length e' = P ++ e' :: X := by
  rw [List.set_append, if_neg (Nat.lt_irrefl _), Nat.sub_self]
  rfl
section
variable {M : gp_M} {k : gp_K} {idx pc cs ss ci kf : Nat} {ls : List (Option Value)} {r : List Value} {P X : gp_H} {fin : Bool} {fs : List Value}
theorem gn_putR {b : Nat} (hl : gp_lk (gp_fl (gp_o M)) idx = some (ci, kf, 3, fin)) (hi : M.1.name = "<init>") (ho : Nat.beq ci (gp_o M) = true) (hf : Nat.blt kf fs.length = true) (h : k (pc + 3) ls r (P ++ (.inr (ci, fs.set kf (.ref b)) :: X)) cs ss) : gp_step l G d M K k (.putfield idx) 3 pc ls (.ref b :: .ref P.length :: r) (P ++ (.inr (ci, fs) :: X)) cs ss := by
  simp only [gp_step, gp_ln, gp_row, hl, gp_ob, gn_nth, Nat.beq_refl, hf, gp_bt, gp_pv, gn_set]
  cases fin
  · exact h
  · refine ⟨hi, ?_⟩
    rw [ho]
    exact h
theorem gn_putF {F : Nat → gp_H} (hl : gp_lk (gp_fl (gp_o M)) idx = some (ci, kf, 3, fin)) (hi : M.1.name = "<init>") (ho : Nat.beq ci (gp_o M) = true) (hf : Nat.blt kf fs.length = true) (h : k (pc + 3) ls r (P ++ (.inr (ci, fs.set kf (.ref (P.length + (X.length + 1)))) :: (X ++ F (P.length + (X.length + 1))))) cs ss) : gp_step l G d M K k (.putfield idx) 3 pc ls (.ref (P ++ (.inr (ci, fs) :: X)).length :: .ref P.length :: r) ((P ++ (.inr (ci, fs) :: X)) ++ F (P ++ (.inr (ci, fs) :: X)).length) cs ss := by
  have e1 : (P ++ (.inr (ci, fs) :: X)).length = P.length + (X.length + 1) := by simp
  have e2 : ((P ++ (.inr (ci, fs) :: X)) ++ F (P.length + (X.length + 1))) = P ++ (.inr (ci, fs) :: (X ++ F (P.length + (X.length + 1)))) := by simp
  rw [e1, e2]
  exact gn_putR hl hi ho hf h
theorem gn_put {Y : gp_H} (hl : gp_lk (gp_fl (gp_o M)) idx = some (ci, kf, 3, fin)) (hi : M.1.name = "<init>") (ho : Nat.beq ci (gp_o M) = true) (hf : Nat.blt kf fs.length = true) (h : k (pc + 3) ls r (P ++ (.inr (ci, fs.set kf (.ref (P.length + (X.length + 1)))) :: (X ++ Y))) cs ss) : gp_step l G d M K k (.putfield idx) 3 pc ls (.ref (P ++ (.inr (ci, fs) :: X)).length :: .ref P.length :: r) ((P ++ (.inr (ci, fs) :: X)) ++ Y) cs ss :=
  gn_putF (F := fun _ => Y) hl hi ho hf h
theorem gn_putI {x : Int32} (hl : gp_lk (gp_fl (gp_o M)) idx = some (ci, kf, 0, false)) (hf : Nat.blt kf fs.length = true) (h : k (pc + 3) ls r (P ++ (.inr (ci, fs.set kf (.int x)) :: X)) cs ss) : gp_step l G d M K k (.putfield idx) 3 pc ls (.int x :: .ref P.length :: r) (P ++ (.inr (ci, fs) :: X)) cs ss := by
  simp only [gp_step, gp_ln, gp_row, hl, gp_ob, gn_nth, Nat.beq_refl, hf, gp_bt, gp_pv, gn_set]
  exact h
variable {n : Int32} {N : Nat} {V : gp_H}
theorem gn_new_int (hN : n.toNatClampNeg = N) (h0 : ¬ n < 0) (h1 : N ≤ 60000000) (h2 : cs + 1 ≤ gp_mc M) (h3 : ss + N ≤ gp_ms M) (h : k (pc + 2) ls (.ref V.length :: r) (V ++ [.inl (0, N, .inl (fun _ => 0))]) (cs + 1) (ss + N)) : gp_step l G d M K k (.newarray .int) 2 pc ls (.int n :: r) V cs ss := by
  subst hN
  exact ⟨h0, h1, h2, h3, h⟩
theorem gn_new_byte (hN : n.toNatClampNeg = N) (h0 : ¬ n < 0) (h1 : N ≤ 60000000) (h2 : cs + 1 ≤ gp_mc M) (h3 : ss + N ≤ gp_ms M) (h : k (pc + 2) ls (.ref V.length :: r) (V ++ [.inl (1, N, .inl (fun _ => 0))]) (cs + 1) (ss + N)) : gp_step l G d M K k (.newarray .byte) 2 pc ls (.int n :: r) V cs ss := by
  subst hN
  exact ⟨h0, h1, h2, h3, h⟩
theorem gn_new_boolean (hN : n.toNatClampNeg = N) (h0 : ¬ n < 0) (h1 : N ≤ 60000000) (h2 : cs + 1 ≤ gp_mc M) (h3 : ss + N ≤ gp_ms M) (h : k (pc + 2) ls (.ref V.length :: r) (V ++ [.inl (2, N, .inl (fun _ => 0))]) (cs + 1) (ss + N)) : gp_step l G d M K k (.newarray .boolean) 2 pc ls (.int n :: r) V cs ss := by
  subst hN
  exact ⟨h0, h1, h2, h3, h⟩
theorem gn_new_long (hN : n.toNatClampNeg = N) (h0 : ¬ n < 0) (h1 : N ≤ 60000000) (h2 : cs + 1 ≤ gp_mc M) (h3 : ss + N ≤ gp_ms M) (h : k (pc + 2) ls (.ref V.length :: r) (V ++ [.inl (3, N, .inr (.inl (fun _ => 0)))]) (cs + 1) (ss + N)) : gp_step l G d M K k (.newarray .long) 2 pc ls (.int n :: r) V cs ss := by
  subst hN
  exact ⟨h0, h1, h2, h3, h⟩
end
def gi_mk : gp_E := .inr (2, [.int 0, .int 0, .int 0, .int 0, .int 0, .int 0, .int 0, .int (Int32.ofInt (-1)), .int (Int32.ofInt (-1))])

set_option maxRecDepth 100000 in
theorem sp_Mk_init {P : gp_H} (h : K none (P ++ [gi_mk])) : gp_Cal l G (d + 1) m_Mk_init [.ref P.length] (P ++ [.inr (2, gp_df 2)]) K := by
  refine gp_enter od_Mk_init rfl ?_
  (repeat refine gp_gc [] od_Mk_init rfl rfl ?_)
  refine gn_putI rfl rfl ?_
  (repeat refine gp_gc [] od_Mk_init rfl rfl ?_)
  refine gn_putI rfl rfl ?_
  (repeat refine gp_gc [] od_Mk_init rfl rfl ?_)
  exact h
def gi_M (a : Nat) : gp_H := [.inr (3, [.ref (a + 1), .ref (a + 2), .ref (a + 3), .ref (a + 4), .int 0, .int 0, .int 0, .int 0, .int 0, .int 0, .int 0, .int 0, .int 0, .int 0]), .inl (0, 500, .inl (fun _ => 0)), .inl (0, 16, .inl (fun _ => 0)), .inl (0, 16, .inl (fun _ => 0)), .inl (0, 16, .inl (fun _ => 0))]
set_option maxRecDepth 100000 in
theorem sp_Mi_init {P : gp_H} (h : K none (P ++ gi_M P.length)) : gp_Cal l G (d + 1) m_Mi_init [.ref P.length] (P ++ [.inr (3, gp_df 3)]) K := by
  refine gp_enter od_Mi_init rfl ?_
  (repeat refine gp_gc [] od_Mi_init rfl rfl ?_)
  refine gn_new_int (N := 500) (by decide) (by decide) (by decide) (by decide) (by decide) ?_
  (repeat refine gp_gc [] od_Mi_init rfl rfl ?_)
  refine gn_put rfl rfl rfl rfl ?_
  (repeat refine gp_gc [] od_Mi_init rfl rfl ?_)
  refine gn_new_int (N := 16) (by decide) (by decide) (by decide) (by decide) (by decide) ?_
  (repeat refine gp_gc [] od_Mi_init rfl rfl ?_)
  refine gn_put rfl rfl rfl rfl ?_
  (repeat refine gp_gc [] od_Mi_init rfl rfl ?_)
  refine gn_new_int (N := 16) (by decide) (by decide) (by decide) (by decide) (by decide) ?_
  (repeat refine gp_gc [] od_Mi_init rfl rfl ?_)
  refine gn_put rfl rfl rfl rfl ?_
  (repeat refine gp_gc [] od_Mi_init rfl rfl ?_)
  refine gn_new_int (N := 16) (by decide) (by decide) (by decide) (by decide) (by decide) ?_
  (repeat refine gp_gc [] od_Mi_init rfl rfl ?_)
  refine gn_put rfl rfl rfl rfl ?_
  (repeat refine gp_gc [] od_Mi_init rfl rfl ?_)
  exact h
def gi_Su (a : Nat) : gp_H := [.inr (8, [.ref (a + 1), .ref (a + 2), .int 0]), .inl (0, 13, .inl (fun _ => 0)), .inl (0, 64, .inl (fun _ => 0))]
set_option maxRecDepth 100000 in
theorem sp_Su_init {P : gp_H} (h : K none (P ++ gi_Su P.length)) : gp_Cal l G (d + 1) m_Su_init [.ref P.length] (P ++ [.inr (8, gp_df 8)]) K := by
  refine gp_enter od_Su_init rfl ?_
  (repeat refine gp_gc [] od_Su_init rfl rfl ?_)
  refine gn_new_int (N := 13) (by decide) (by decide) (by decide) (by decide) (by decide) ?_
  (repeat refine gp_gc [] od_Su_init rfl rfl ?_)
  refine gn_put rfl rfl rfl rfl ?_
  (repeat refine gp_gc [] od_Su_init rfl rfl ?_)
  refine gn_new_int (N := 64) (by decide) (by decide) (by decide) (by decide) (by decide) ?_
  (repeat refine gp_gc [] od_Su_init rfl rfl ?_)
  refine gn_put rfl rfl rfl rfl ?_
  (repeat refine gp_gc [] od_Su_init rfl rfl ?_)
  exact h
def gi_Br (a : Nat) : gp_H := [.inr (0, [.ref (a + 1), .int 0]), .inl (1, 400, .inl (fun _ => 0))]
set_option maxRecDepth 100000 in
theorem sp_Br_init {P : gp_H} (h : K none (P ++ gi_Br P.length)) : gp_Cal l G (d + 1) m_Br_init [.ref P.length] (P ++ [.inr (0, gp_df 0)]) K := by
  refine gp_enter od_Br_init rfl ?_
  (repeat refine gp_gc [] od_Br_init rfl rfl ?_)
  refine gn_new_byte (N := 400) (by decide) (by decide) (by decide) (by decide) (by decide) ?_
  (repeat refine gp_gc [] od_Br_init rfl rfl ?_)
  refine gn_put rfl rfl rfl rfl ?_
  (repeat refine gp_gc [] od_Br_init rfl rfl ?_)
  exact h
def gi_Wi (a : Nat) : gp_H := [.inr (10, [.ref (a + 1), .ref (a + 2), .int 0]), .inl (0, 24, .inl (fun _ => 0)), .inl (0, 24, .inl (fun _ => 0))]
set_option maxRecDepth 100000 in
theorem sp_Wi_init {P : gp_H} (h : K none (P ++ gi_Wi P.length)) : gp_Cal l G (d + 1) m_Wi_init [.ref P.length] (P ++ [.inr (10, gp_df 10)]) K := by
  refine gp_enter od_Wi_init rfl ?_
  (repeat refine gp_gc [] od_Wi_init rfl rfl ?_)
  refine gn_new_int (N := 24) (by decide) (by decide) (by decide) (by decide) (by decide) ?_
  (repeat refine gp_gc [] od_Wi_init rfl rfl ?_)
  refine gn_put rfl rfl rfl rfl ?_
  (repeat refine gp_gc [] od_Wi_init rfl rfl ?_)
  refine gn_new_int (N := 24) (by decide) (by decide) (by decide) (by decide) (by decide) ?_
  (repeat refine gp_gc [] od_Wi_init rfl rfl ?_)
  refine gn_put rfl rfl rfl rfl ?_
  (repeat refine gp_gc [] od_Wi_init rfl rfl ?_)
  exact h
def gi_Sk (a : Nat) : gp_H := [.inr (7, [.ref (a + 1), .ref (a + 2), .ref (a + 3), .ref (a + 4), .ref (a + 5), .ref (a + 6), .ref (a + 7), .int 0, .int 0, .int 0, .int 0, .int 0, .int 0]), .inl (0, 14, .inl (fun _ => 0)), .inl (0, 14, .inl (fun _ => 0)), .inl (0, 14, .inl (fun _ => 0)), .inl (0, 14, .inl (fun _ => 0)), .inl (0, 14, .inl (fun _ => 0)), .inl (0, 14, .inl (fun _ => 0)), .inl (0, 14, .inl (fun _ => 0))]
set_option maxRecDepth 100000 in
theorem sp_Sk_init {P : gp_H} (h : K none (P ++ gi_Sk P.length)) : gp_Cal l G (d + 1) m_Sk_init [.ref P.length] (P ++ [.inr (7, gp_df 7)]) K := by
  refine gp_enter od_Sk_init rfl ?_
  (repeat refine gp_gc [] od_Sk_init rfl rfl ?_)
  refine gn_new_int (N := 14) (by decide) (by decide) (by decide) (by decide) (by decide) ?_
  (repeat refine gp_gc [] od_Sk_init rfl rfl ?_)
  refine gn_put rfl rfl rfl rfl ?_
  (repeat refine gp_gc [] od_Sk_init rfl rfl ?_)
  refine gn_new_int (N := 14) (by decide) (by decide) (by decide) (by decide) (by decide) ?_
  (repeat refine gp_gc [] od_Sk_init rfl rfl ?_)
  refine gn_put rfl rfl rfl rfl ?_
  (repeat refine gp_gc [] od_Sk_init rfl rfl ?_)
  refine gn_new_int (N := 14) (by decide) (by decide) (by decide) (by decide) (by decide) ?_
  (repeat refine gp_gc [] od_Sk_init rfl rfl ?_)
  refine gn_put rfl rfl rfl rfl ?_
  (repeat refine gp_gc [] od_Sk_init rfl rfl ?_)
  refine gn_new_int (N := 14) (by decide) (by decide) (by decide) (by decide) (by decide) ?_
  (repeat refine gp_gc [] od_Sk_init rfl rfl ?_)
  refine gn_put rfl rfl rfl rfl ?_
  (repeat refine gp_gc [] od_Sk_init rfl rfl ?_)
  refine gn_new_int (N := 14) (by decide) (by decide) (by decide) (by decide) (by decide) ?_
  (repeat refine gp_gc [] od_Sk_init rfl rfl ?_)
  refine gn_put rfl rfl rfl rfl ?_
  (repeat refine gp_gc [] od_Sk_init rfl rfl ?_)
  refine gn_new_int (N := 14) (by decide) (by decide) (by decide) (by decide) (by decide) ?_
  (repeat refine gp_gc [] od_Sk_init rfl rfl ?_)
  refine gn_put rfl rfl rfl rfl ?_
  (repeat refine gp_gc [] od_Sk_init rfl rfl ?_)
  refine gn_new_int (N := 14) (by decide) (by decide) (by decide) (by decide) (by decide) ?_
  (repeat refine gp_gc [] od_Sk_init rfl rfl ?_)
  refine gn_put rfl rfl rfl rfl ?_
  (repeat refine gp_gc [] od_Sk_init rfl rfl ?_)
  exact h
def gi_Tr (a : Nat) : gp_H := [.inr (9, [.ref (a + 1), .ref (a + 2), .ref (a + 3), .int 0]), .inl (3, 40, .inr (.inl (fun _ => 0))), .inl (0, 40, .inl (fun _ => 0)), .inl (0, 40, .inl (fun _ => 0))]
set_option maxRecDepth 100000 in
theorem sp_Tr_init {P : gp_H} (h : K none (P ++ gi_Tr P.length)) : gp_Cal l G (d + 1) m_Tr_init [.ref P.length] (P ++ [.inr (9, gp_df 9)]) K := by
  refine gp_enter od_Tr_init rfl ?_
  (repeat refine gp_gc [] od_Tr_init rfl rfl ?_)
  refine gn_new_long (N := 40) (by decide) (by decide) (by decide) (by decide) (by decide) ?_
  (repeat refine gp_gc [] od_Tr_init rfl rfl ?_)
  refine gn_put rfl rfl rfl rfl ?_
  (repeat refine gp_gc [] od_Tr_init rfl rfl ?_)
  refine gn_new_int (N := 40) (by decide) (by decide) (by decide) (by decide) (by decide) ?_
  (repeat refine gp_gc [] od_Tr_init rfl rfl ?_)
  refine gn_put rfl rfl rfl rfl ?_
  (repeat refine gp_gc [] od_Tr_init rfl rfl ?_)
  refine gn_new_int (N := 40) (by decide) (by decide) (by decide) (by decide) (by decide) ?_
  (repeat refine gp_gc [] od_Tr_init rfl rfl ?_)
  refine gn_put rfl rfl rfl rfl ?_
  (repeat refine gp_gc [] od_Tr_init rfl rfl ?_)
  exact h
def gi_Pa (a : Nat) : gp_H := [.inr (4, [.ref (a + 1), .ref (a + 2), .ref (a + 3), .ref (a + 4), .int 0, .int 0, .int 0, .int 0, .int (-1), .ref (a + 5)]), .inl (0, 500, .inl (fun _ => 0)), .inl (0, 501, .inl (fun _ => 0)), .inl (0, 501, .inl (fun _ => 0)), .inl (0, 501, .inl (fun _ => 0))] ++ gi_M (a + 5)
set_option maxRecDepth 100000 in
theorem sp_Pa_init {P : gp_H} (h : K none (P ++ gi_Pa P.length)) : gp_Cal l G (d + 2) m_Pa_init [.ref P.length] (P ++ [.inr (4, gp_df 4)]) K := by
  refine gp_enter od_Pa_init rfl ?_
  (repeat refine gp_gc [] od_Pa_init rfl rfl ?_)
  refine gn_new_int (N := 500) (by decide) (by decide) (by decide) (by decide) (by decide) ?_
  (repeat refine gp_gc [] od_Pa_init rfl rfl ?_)
  refine gn_put rfl rfl rfl rfl ?_
  (repeat refine gp_gc [] od_Pa_init rfl rfl ?_)
  refine gn_new_int (N := 501) (by decide) (by decide) (by decide) (by decide) (by decide) ?_
  (repeat refine gp_gc [] od_Pa_init rfl rfl ?_)
  refine gn_put rfl rfl rfl rfl ?_
  (repeat refine gp_gc [] od_Pa_init rfl rfl ?_)
  refine gn_new_int (N := 501) (by decide) (by decide) (by decide) (by decide) (by decide) ?_
  (repeat refine gp_gc [] od_Pa_init rfl rfl ?_)
  refine gn_put rfl rfl rfl rfl ?_
  (repeat refine gp_gc [] od_Pa_init rfl rfl ?_)
  refine gn_new_int (N := 501) (by decide) (by decide) (by decide) (by decide) (by decide) ?_
  (repeat refine gp_gc [] od_Pa_init rfl rfl ?_)
  refine gn_put rfl rfl rfl rfl ?_
  (repeat refine gp_gc [] od_Pa_init rfl rfl ?_)
  refine gn_putI rfl rfl ?_
  (repeat refine gp_gc [] od_Pa_init rfl rfl ?_)
  refine And.intro (by decide) (And.intro (by decide) ?_)
  (repeat refine gp_gc [] od_Pa_init rfl rfl ?_)
  refine And.intro (by decide) (And.intro (by decide) ?_)
  refine sp_Mi_init ?_
  (repeat refine gp_gc [] od_Pa_init rfl rfl ?_)
  refine gn_putF (F := gi_M) rfl rfl rfl rfl ?_
  (repeat refine gp_gc [] od_Pa_init rfl rfl ?_)
  exact h
def gi_Se (a : Nat) (x : Nat) (y : Nat) : gp_H := [.inr (6, [.ref x, .ref y, .ref (a + 1), .ref (a + 2), .ref (a + 3), .ref (a + 4), .ref (a + 5), .ref (a + 6), .int 0, .int 0, .int 0, .int 0, .int 0]), .inl (0, 10, .inl (fun _ => 0)), .inl (0, 10, .inl (fun _ => 0)), .inl (0, 60, .inl (fun _ => 0)), .inl (0, 11, .inl (fun _ => 0)), .inl (0, 10, .inl (fun _ => 0)), .inl (0, 10, .inl (fun _ => 0))]
set_option maxRecDepth 100000 in
theorem sp_Se_init {P : gp_H} {x y : Nat} (h : K none (P ++ gi_Se P.length x y)) : gp_Cal l G (d + 1) m_Se_init [.ref P.length, .ref x, .ref y] (P ++ [.inr (6, gp_df 6)]) K := by
  refine gp_enter od_Se_init rfl ?_
  (repeat refine gp_gc [] od_Se_init rfl rfl ?_)
  refine gn_new_int (N := 10) (by decide) (by decide) (by decide) (by decide) (by decide) ?_
  (repeat refine gp_gc [] od_Se_init rfl rfl ?_)
  refine gn_put rfl rfl rfl rfl ?_
  (repeat refine gp_gc [] od_Se_init rfl rfl ?_)
  refine gn_new_int (N := 10) (by decide) (by decide) (by decide) (by decide) (by decide) ?_
  (repeat refine gp_gc [] od_Se_init rfl rfl ?_)
  refine gn_put rfl rfl rfl rfl ?_
  (repeat refine gp_gc [] od_Se_init rfl rfl ?_)
  refine gn_new_int (N := 60) (by decide) (by decide) (by decide) (by decide) (by decide) ?_
  (repeat refine gp_gc [] od_Se_init rfl rfl ?_)
  refine gn_put rfl rfl rfl rfl ?_
  (repeat refine gp_gc [] od_Se_init rfl rfl ?_)
  refine gn_new_int (N := 11) (by decide) (by decide) (by decide) (by decide) (by decide) ?_
  (repeat refine gp_gc [] od_Se_init rfl rfl ?_)
  refine gn_put rfl rfl rfl rfl ?_
  (repeat refine gp_gc [] od_Se_init rfl rfl ?_)
  refine gn_new_int (N := 10) (by decide) (by decide) (by decide) (by decide) (by decide) ?_
  (repeat refine gp_gc [] od_Se_init rfl rfl ?_)
  refine gn_put rfl rfl rfl rfl ?_
  (repeat refine gp_gc [] od_Se_init rfl rfl ?_)
  refine gn_new_int (N := 10) (by decide) (by decide) (by decide) (by decide) (by decide) ?_
  (repeat refine gp_gc [] od_Se_init rfl rfl ?_)
  refine gn_put rfl rfl rfl rfl ?_
  (repeat refine gp_gc [] od_Se_init rfl rfl ?_)
  refine gn_putR rfl rfl rfl rfl ?_
  (repeat refine gp_gc [] od_Se_init rfl rfl ?_)
  refine gn_putR rfl rfl rfl rfl ?_
  (repeat refine gp_gc [] od_Se_init rfl rfl ?_)
  exact h
def gi_Ch (a : Nat) (x : Nat) (y : Nat) : gp_H := [.inr (1, [.ref x, .ref y, .ref (a + 1), .ref (a + 2), .ref (a + 3), .int 0, .int 0, .int 0, .int 0, .int 0, .int 0, .int 0]), .inl (0, 6, .inl (fun _ => 0)), .inl (0, 78, .inl (fun _ => 0)), .inl (0, 78, .inl (fun _ => 0))]
set_option maxRecDepth 100000 in
theorem sp_Ch_init {P : gp_H} {x y : Nat} (h : K none (P ++ gi_Ch P.length x y)) : gp_Cal l G (d + 1) m_Ch_init [.ref P.length, .ref x, .ref y] (P ++ [.inr (1, gp_df 1)]) K := by
  refine gp_enter od_Ch_init rfl ?_
  (repeat refine gp_gc [] od_Ch_init rfl rfl ?_)
  refine gn_new_int (N := 6) (by decide) (by decide) (by decide) (by decide) (by decide) ?_
  (repeat refine gp_gc [] od_Ch_init rfl rfl ?_)
  refine gn_put rfl rfl rfl rfl ?_
  (repeat refine gp_gc [] od_Ch_init rfl rfl ?_)
  refine gn_new_int (N := 78) (by decide) (by decide) (by decide) (by decide) (by decide) ?_
  (repeat refine gp_gc [] od_Ch_init rfl rfl ?_)
  refine gn_put rfl rfl rfl rfl ?_
  (repeat refine gp_gc [] od_Ch_init rfl rfl ?_)
  refine gn_new_int (N := 78) (by decide) (by decide) (by decide) (by decide) (by decide) ?_
  (repeat refine gp_gc [] od_Ch_init rfl rfl ?_)
  refine gn_put rfl rfl rfl rfl ?_
  (repeat refine gp_gc [] od_Ch_init rfl rfl ?_)
  refine gn_putR rfl rfl rfl rfl ?_
  (repeat refine gp_gc [] od_Ch_init rfl rfl ?_)
  refine gn_putR rfl rfl rfl rfl ?_
  (repeat refine gp_gc [] od_Ch_init rfl rfl ?_)
  exact h

end
