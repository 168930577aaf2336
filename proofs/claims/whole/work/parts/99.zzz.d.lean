section
variable {l : Launch} {G : gp_G} {d : Nat} {w : Nat → Nat → Int32} {u : Int64 × (Nat → Int64)} {q : Nat → Nat} {K : Option Value → gp_H → Prop}
/-! ===== the class's constructor ===== -/
def gi_f : Nat → Nat → Option Nat
  | 0 => fun _ => none
  | i + 1 => va_up (gi_f i) i (some (5 + i))
def gi_g : Nat → Nat → Option Nat
  | 0 => fun _ => none
  | i + 1 => va_up (gi_g i) i (some (22 + 5 * i))
def gi_mks : Nat → gp_H
  | 0 => []
  | i + 1 => gi_mks i ++ [gi_mk]
def gi_mds : Nat → gp_H
  | 0 => []
  | i + 1 => gi_mds i ++ gi_M (22 + 5 * i)
def gi_pl (i : Nat) : gp_H := [.inr (11, gp_df 11), .inr (5, [.ref 2, .ref 3, .ref 4, .int 0, .int 0]), .inl (4, 16, .inr (.inr (.inr (.inr (gi_f i))))), .inl (0, 7, .inl (fun _ => 0)), .inl (0, 16, .inl (fun _ => 0))] ++ gi_mks i
theorem gi_lt {i n : Nat} (h : i < n) (hn : n < 2 ^ 31) : ¬ nI n ≤ nI i := nI_ge h hn
set_option maxRecDepth 100000 in
set_option maxHeartbeats 4000000 in
theorem gi_pl_step {i : Nat} (hi : i < 16) (hp : ∀ x, x = nI (i + 1) → gp_Go l G (d + 2) m_Pl_init K 31 [some (.ref 1), some (.int x)] [] (gi_pl (i + 1)) (3 + (i + 1)) (39 + 9 * (i + 1))) : ∀ x, x = nI i → gp_Go l G (d + 2) m_Pl_init K 31 [some (.ref 1), some (.int x)] [] (gi_pl i) (3 + i) (39 + 9 * i) := by
  intro x ex
  subst ex
  have ec : (nI i).toNatClampNeg = i := nI_clamp (by omega)
  have c16 := gi_lt hi (by decide)
  have iv : vp_in (nI i) 16 := vp_in_nI hi (by decide)
  have hp := hp _ (gp_inc rfl)
  have m1 : 3 + i + 1 ≤ 19 := by omega
  have m2 : 39 + 9 * i + 9 ≤ 183 := by omega
  rcases (show i = 0 ∨ i = 1 ∨ i = 2 ∨ i = 3 ∨ i = 4 ∨ i = 5 ∨ i = 6 ∨ i = 7 ∨ i = 8 ∨ i = 9 ∨ i = 10 ∨ i = 11 ∨ i = 12 ∨ i = 13 ∨ i = 14 ∨ i = 15 by omega) with rfl | rfl | rfl | rfl | rfl | rfl | rfl | rfl | rfl | rfl | rfl | rfl | rfl | rfl | rfl | rfl <;> (
    refine gp_go od_Pl_init rfl ?_
    (repeat refine gp_gc [31] od_Pl_init rfl rfl ?_)
    refine gb_ge_f c16 ?_
    (repeat refine gp_gc [31] od_Pl_init rfl rfl ?_)
    refine And.intro m1 (And.intro m2 ?_)
    (repeat refine gp_gc [31] od_Pl_init rfl rfl ?_)
    refine sp_Mk_init (d := d) ?_
    (repeat refine gp_gc [31] od_Pl_init rfl rfl ?_)
    refine And.intro iv ?_
    rw [ec]
    (repeat refine gp_gc [31] od_Pl_init rfl rfl ?_)
    exact hp)
set_option maxRecDepth 100000 in
set_option maxHeartbeats 4000000 in
theorem sp_Pl_init (h : K none (gi_pl 16)) : gp_Cal l G (d + 2) m_Pl_init [.ref 1] [.inr (11, gp_df 11), .inr (5, gp_df 5)] K := by
  refine gp_enter od_Pl_init rfl ?_
  (repeat refine gp_gc [31] od_Pl_init rfl rfl ?_)
  refine And.intro (by decide) (And.intro (by decide) (And.intro (by decide) (And.intro (by decide) ?_)))
  (repeat refine gp_gc [31] od_Pl_init rfl rfl ?_)
  refine And.intro rfl ?_
  (repeat refine gp_gc [31] od_Pl_init rfl rfl ?_)
  refine gn_new_int (N := 7) (by decide) (by decide) (by decide) (by decide) (by decide) ?_
  (repeat refine gp_gc [31] od_Pl_init rfl rfl ?_)
  refine And.intro rfl ?_
  (repeat refine gp_gc [31] od_Pl_init rfl rfl ?_)
  refine gn_new_int (N := 16) (by decide) (by decide) (by decide) (by decide) (by decide) ?_
  (repeat refine gp_gc [31] od_Pl_init rfl rfl ?_)
  refine And.intro rfl ?_
  (repeat refine gp_gc [31] od_Pl_init rfl rfl ?_)
  have key : ∀ k i, i + k = 16 → ∀ x, x = nI i → gp_Go l G (d + 2) m_Pl_init K 31 [some (.ref 1), some (.int x)] [] (gi_pl i) (3 + i) (39 + 9 * i) := by
    intro k
    induction k with
    | zero =>
      intro i hi x ex
      have e : i = 16 := by omega
      subst e
      subst ex
      refine gp_go od_Pl_init rfl ?_
      (repeat refine gp_gc [31] od_Pl_init rfl rfl ?_)
      refine gb_ge_t (Int32.le_refl _) ?_
      (repeat refine gp_gc [31] od_Pl_init rfl rfl ?_)
      exact h
    | succ k ih =>
      intro i hi
      exact gi_pl_step (by omega) (fun x ex => ih (i + 1) (by omega) x ex)
  exact key 16 0 rfl 0 rfl

end
