section
variable {l : Launch} {G : gp_G} {d : Nat} {w : Nat → Nat → Int32} {u : Int64 × (Nat → Int64)} {q : Nat → Nat} {K : Option Value → gp_H → Prop}
/-! ===== the class's constructor, whole ===== -/
def gi_mn (i : Nat) : gp_H := (gi_pl 16 ++ [.inl (5, 6, .inr (.inr (.inr (.inr (gi_g i)))))]) ++ gi_mds i
set_option maxRecDepth 100000 in
set_option maxHeartbeats 4000000 in
theorem gi_mn_step {i : Nat} (hi : i < 6) (hp : ∀ x, x = nI (i + 1) → gp_Go l G (d + 3) m_Gp_init K 20 [some (.ref 0), some (.ref 1), some (.ref 21), some (.int x)] [] (gi_mn (i + 1)) (21 + 5 * (i + 1)) (194 + 562 * (i + 1))) : ∀ x, x = nI i → gp_Go l G (d + 3) m_Gp_init K 20 [some (.ref 0), some (.ref 1), some (.ref 21), some (.int x)] [] (gi_mn i) (21 + 5 * i) (194 + 562 * i) := by
  intro x ex
  subst ex
  have ec : (nI i).toNatClampNeg = i := nI_clamp (by omega)
  have c16 := gi_lt hi (by decide)
  have iv : vp_in (nI i) 6 := vp_in_nI hi (by decide)
  have hp := hp _ (gp_inc rfl)
  have m1 : 21 + 5 * i + 1 ≤ 94 := by omega
  have m2 : 194 + 562 * i + 14 ≤ 7609 := by omega
  have m3 : 21 + 5 * i + 1 + 4 ≤ 94 := by omega
  have m4 : 194 + 562 * i + 14 + 548 ≤ 7609 := by omega
  rcases (show i = 0 ∨ i = 1 ∨ i = 2 ∨ i = 3 ∨ i = 4 ∨ i = 5 by omega) with rfl | rfl | rfl | rfl | rfl | rfl <;> (
    refine gp_go od_Gp_init rfl ?_
    (repeat refine gp_gc [20] od_Gp_init rfl rfl ?_)
    refine gb_ge_f c16 ?_
    (repeat refine gp_gc [20] od_Gp_init rfl rfl ?_)
    refine And.intro m1 (And.intro m2 ?_)
    (repeat refine gp_gc [20] od_Gp_init rfl rfl ?_)
    refine And.intro m3 (And.intro m4 ?_)
    refine sp_Mi_init (d := d + 1) ?_
    (repeat refine gp_gc [20] od_Gp_init rfl rfl ?_)
    refine And.intro iv ?_
    rw [ec]
    (repeat refine gp_gc [20] od_Gp_init rfl rfl ?_)
    exact hp)
theorem sq_Su {P : gp_H} {a : Nat} (ha : P.length = a) (h : K none (P ++ gi_Su a)) : gp_Cal l G (d + 1) m_Su_init [.ref P.length] (P ++ [.inr (8, gp_df 8)]) K := sp_Su_init (by rw [ha]; exact h)
theorem sq_Br {P : gp_H} {a : Nat} (ha : P.length = a) (h : K none (P ++ gi_Br a)) : gp_Cal l G (d + 1) m_Br_init [.ref P.length] (P ++ [.inr (0, gp_df 0)]) K := sp_Br_init (by rw [ha]; exact h)
theorem sq_Wi {P : gp_H} {a : Nat} (ha : P.length = a) (h : K none (P ++ gi_Wi a)) : gp_Cal l G (d + 1) m_Wi_init [.ref P.length] (P ++ [.inr (10, gp_df 10)]) K := sp_Wi_init (by rw [ha]; exact h)
theorem sq_Sk {P : gp_H} {a : Nat} (ha : P.length = a) (h : K none (P ++ gi_Sk a)) : gp_Cal l G (d + 1) m_Sk_init [.ref P.length] (P ++ [.inr (7, gp_df 7)]) K := sp_Sk_init (by rw [ha]; exact h)
theorem sq_Tr {P : gp_H} {a : Nat} (ha : P.length = a) (h : K none (P ++ gi_Tr a)) : gp_Cal l G (d + 1) m_Tr_init [.ref P.length] (P ++ [.inr (9, gp_df 9)]) K := sp_Tr_init (by rw [ha]; exact h)
theorem sq_Pa {P : gp_H} {a : Nat} (ha : P.length = a) (h : K none (P ++ gi_Pa a)) : gp_Cal l G (d + 2) m_Pa_init [.ref P.length] (P ++ [.inr (4, gp_df 4)]) K := sp_Pa_init (by rw [ha]; exact h)
theorem sq_Se {P : gp_H} {a : Nat} {x y : Nat} (ha : P.length = a) (h : K none (P ++ gi_Se a x y)) : gp_Cal l G (d + 1) m_Se_init [.ref P.length, .ref x, .ref y] (P ++ [.inr (6, gp_df 6)]) K := sp_Se_init (by rw [ha]; exact h)
theorem sq_Ch {P : gp_H} {a : Nat} {x y : Nat} (ha : P.length = a) (h : K none (P ++ gi_Ch a x y)) : gp_Cal l G (d + 1) m_Ch_init [.ref P.length, .ref x, .ref y] (P ++ [.inr (1, gp_df 1)]) K := sp_Ch_init (by rw [ha]; exact h)
def gi_D1 : gp_H := [gc_0 gi_w0 gi_u0 id, gc_1 gi_w0 gi_u0 id, gc_2 gi_w0 gi_u0 id, gc_3 gi_w0 gi_u0 id, gc_4 gi_w0 gi_u0 id, gc_5 gi_w0 gi_u0 id, gc_6 gi_w0 gi_u0 id, gc_7 gi_w0 gi_u0 id, gc_8 gi_w0 gi_u0 id, gc_9 gi_w0 gi_u0 id, gc_10 gi_w0 gi_u0 id, gc_11 gi_w0 gi_u0 id, gc_12 gi_w0 gi_u0 id, gc_13 gi_w0 gi_u0 id, gc_14 gi_w0 gi_u0 id, gc_15 gi_w0 gi_u0 id, gc_16 gi_w0 gi_u0 id, gc_17 gi_w0 gi_u0 id, gc_18 gi_w0 gi_u0 id, gc_19 gi_w0 gi_u0 id, gc_20 gi_w0 gi_u0 id, .inl (5, 6, .inr (.inr (.inr (.inr (gi_g 6))))), gc_22 gi_w0 gi_u0 id, gc_23 gi_w0 gi_u0 id, gc_24 gi_w0 gi_u0 id, gc_25 gi_w0 gi_u0 id, gc_26 gi_w0 gi_u0 id, gc_27 gi_w0 gi_u0 id, gc_28 gi_w0 gi_u0 id, gc_29 gi_w0 gi_u0 id, gc_30 gi_w0 gi_u0 id, gc_31 gi_w0 gi_u0 id, gc_32 gi_w0 gi_u0 id, gc_33 gi_w0 gi_u0 id, gc_34 gi_w0 gi_u0 id, gc_35 gi_w0 gi_u0 id, gc_36 gi_w0 gi_u0 id, gc_37 gi_w0 gi_u0 id, gc_38 gi_w0 gi_u0 id, gc_39 gi_w0 gi_u0 id, gc_40 gi_w0 gi_u0 id, gc_41 gi_w0 gi_u0 id, gc_42 gi_w0 gi_u0 id, gc_43 gi_w0 gi_u0 id, gc_44 gi_w0 gi_u0 id, gc_45 gi_w0 gi_u0 id, gc_46 gi_w0 gi_u0 id, gc_47 gi_w0 gi_u0 id, gc_48 gi_w0 gi_u0 id, gc_49 gi_w0 gi_u0 id, gc_50 gi_w0 gi_u0 id, gc_51 gi_w0 gi_u0 id, gc_52 gi_w0 gi_u0 id, gc_53 gi_w0 gi_u0 id, gc_54 gi_w0 gi_u0 id, gc_55 gi_w0 gi_u0 id, gc_56 gi_w0 gi_u0 id, gc_57 gi_w0 gi_u0 id, gc_58 gi_w0 gi_u0 id, gc_59 gi_w0 gi_u0 id, gc_60 gi_w0 gi_u0 id, gc_61 gi_w0 gi_u0 id, gc_62 gi_w0 gi_u0 id, gc_63 gi_w0 gi_u0 id, gc_64 gi_w0 gi_u0 id, gc_65 gi_w0 gi_u0 id, gc_66 gi_w0 gi_u0 id, gc_67 gi_w0 gi_u0 id, gc_68 gi_w0 gi_u0 id, gc_69 gi_w0 gi_u0 id, gc_70 gi_w0 gi_u0 id, gc_71 gi_w0 gi_u0 id, gc_72 gi_w0 gi_u0 id, gc_73 gi_w0 gi_u0 id, gc_74 gi_w0 gi_u0 id, gc_75 gi_w0 gi_u0 id, gc_76 gi_w0 gi_u0 id, gc_77 gi_w0 gi_u0 id, gc_78 gi_w0 gi_u0 id, gc_79 gi_w0 gi_u0 id, gc_80 gi_w0 gi_u0 id, gc_81 gi_w0 gi_u0 id, gc_82 gi_w0 gi_u0 id, gc_83 gi_w0 gi_u0 id, gc_84 gi_w0 gi_u0 id, gc_85 gi_w0 gi_u0 id, gc_86 gi_w0 gi_u0 id, gc_87 gi_w0 gi_u0 id, gc_88 gi_w0 gi_u0 id, gc_89 gi_w0 gi_u0 id, gc_90 gi_w0 gi_u0 id, gc_91 gi_w0 gi_u0 id, gc_92 gi_w0 gi_u0 id, gc_93 gi_w0 gi_u0 id, gc_94 gi_w0 gi_u0 id]
set_option maxRecDepth 100000 in
set_option maxHeartbeats 4000000 in
theorem gi_Gp_tail (h : K none gi_C) : gp_Go l G (d + 3) m_Gp_init K 42 [some (.ref 0), some (.ref 1), some (.ref 21), some (.int (nI 6))] [] (gi_mn 6) (21 + 5 * 6) (194 + 562 * 6) := by
  (repeat refine gp_gc [157] od_Gp_init rfl rfl ?_)
  refine And.intro (by decide) (And.intro (by decide) ?_)
  (repeat refine gp_gc [157] od_Gp_init rfl rfl ?_)
  refine And.intro (by decide) (And.intro (by decide) ?_)
  refine sq_Su (d := d + 1) (a := 52) rfl ?_
  (repeat refine gp_gc [157] od_Gp_init rfl rfl ?_)
  refine And.intro rfl ?_
  (repeat refine gp_gc [157] od_Gp_init rfl rfl ?_)
  refine And.intro rfl ?_
  (repeat refine gp_gc [157] od_Gp_init rfl rfl ?_)
  refine And.intro rfl ?_
  (repeat refine gp_gc [157] od_Gp_init rfl rfl ?_)
  refine And.intro (by decide) (And.intro (by decide) ?_)
  (repeat refine gp_gc [157] od_Gp_init rfl rfl ?_)
  refine And.intro (by decide) (And.intro (by decide) ?_)
  refine sq_Pa (d := d) (a := 55) rfl ?_
  (repeat refine gp_gc [157] od_Gp_init rfl rfl ?_)
  refine And.intro rfl ?_
  (repeat refine gp_gc [157] od_Gp_init rfl rfl ?_)
  refine And.intro (by decide) (And.intro (by decide) ?_)
  (repeat refine gp_gc [157] od_Gp_init rfl rfl ?_)
  refine And.intro (by decide) (And.intro (by decide) ?_)
  refine sq_Se (d := d + 1) (a := 65) rfl ?_
  (repeat refine gp_gc [157] od_Gp_init rfl rfl ?_)
  refine And.intro rfl ?_
  (repeat refine gp_gc [157] od_Gp_init rfl rfl ?_)
  refine And.intro (by decide) (And.intro (by decide) ?_)
  (repeat refine gp_gc [157] od_Gp_init rfl rfl ?_)
  refine And.intro (by decide) (And.intro (by decide) ?_)
  refine sq_Ch (d := d + 1) (a := 72) rfl ?_
  (repeat refine gp_gc [157] od_Gp_init rfl rfl ?_)
  refine And.intro rfl ?_
  (repeat refine gp_gc [157] od_Gp_init rfl rfl ?_)
  refine And.intro (by decide) (And.intro (by decide) ?_)
  (repeat refine gp_gc [157] od_Gp_init rfl rfl ?_)
  refine And.intro (by decide) (And.intro (by decide) ?_)
  refine sq_Br (d := d + 1) (a := 76) rfl ?_
  (repeat refine gp_gc [157] od_Gp_init rfl rfl ?_)
  refine And.intro rfl ?_
  (repeat refine gp_gc [157] od_Gp_init rfl rfl ?_)
  refine And.intro (by decide) (And.intro (by decide) ?_)
  (repeat refine gp_gc [157] od_Gp_init rfl rfl ?_)
  refine And.intro (by decide) (And.intro (by decide) ?_)
  refine sq_Br (d := d + 1) (a := 78) rfl ?_
  (repeat refine gp_gc [157] od_Gp_init rfl rfl ?_)
  refine And.intro rfl ?_
  (repeat refine gp_gc [157] od_Gp_init rfl rfl ?_)
  refine And.intro (by decide) (And.intro (by decide) ?_)
  (repeat refine gp_gc [157] od_Gp_init rfl rfl ?_)
  refine And.intro (by decide) (And.intro (by decide) ?_)
  refine sq_Wi (d := d + 1) (a := 80) rfl ?_
  (repeat refine gp_gc [157] od_Gp_init rfl rfl ?_)
  refine And.intro rfl ?_
  (repeat refine gp_gc [157] od_Gp_init rfl rfl ?_)
  refine And.intro (by decide) (And.intro (by decide) ?_)
  (repeat refine gp_gc [157] od_Gp_init rfl rfl ?_)
  refine And.intro (by decide) (And.intro (by decide) ?_)
  refine sq_Sk (d := d + 1) (a := 83) rfl ?_
  (repeat refine gp_gc [157] od_Gp_init rfl rfl ?_)
  refine And.intro rfl ?_
  (repeat refine gp_gc [157] od_Gp_init rfl rfl ?_)
  refine And.intro (by decide) (And.intro (by decide) ?_)
  (repeat refine gp_gc [157] od_Gp_init rfl rfl ?_)
  refine And.intro (by decide) (And.intro (by decide) ?_)
  refine sq_Tr (d := d + 1) (a := 91) rfl ?_
  (repeat refine gp_gc [157] od_Gp_init rfl rfl ?_)
  refine And.intro rfl ?_
  (repeat refine gp_gc [157] od_Gp_init rfl rfl ?_)
  show gp_Go l G (d + 3) m_Gp_init K 157 _ [] (gi_D1.set 2 (.inl (4, 16, .inr (.inr (.inr (.inr (gi_f 16))))))) 94 7609
  refine gp_Go_ar (g := fun j => some (5 + j)) (by decide) ?_
  show gp_Go l G (d + 3) m_Gp_init K 157 _ [] (gi_C.set 21 (.inl (5, 6, .inr (.inr (.inr (.inr (gi_g 6))))))) 94 7609
  refine gp_Go_ar (g := fun j => some (gp_ma (id j))) (by decide) ?_
  refine gp_go od_Gp_init rfl ?_
  exact h
set_option maxRecDepth 100000 in
set_option maxHeartbeats 4000000 in
theorem sp_Gp_init (h : K none gi_C) : gp_Cal l G (d + 3) m_Gp_init [.ref 0] [.inr (11, gp_df 11)] K := by
  refine gp_enter od_Gp_init rfl ?_
  (repeat refine gp_gc [20] od_Gp_init rfl rfl ?_)
  refine And.intro (by decide) (And.intro (by decide) ?_)
  (repeat refine gp_gc [20] od_Gp_init rfl rfl ?_)
  refine And.intro (by decide) (And.intro (by decide) ?_)
  refine sp_Pl_init (d := d) ?_
  (repeat refine gp_gc [20] od_Gp_init rfl rfl ?_)
  refine And.intro (by decide) (And.intro (by decide) (And.intro (by decide) (And.intro (by decide) ?_)))
  (repeat refine gp_gc [20] od_Gp_init rfl rfl ?_)
  have key : ∀ k i, i + k = 6 → ∀ x, x = nI i → gp_Go l G (d + 3) m_Gp_init K 20 [some (.ref 0), some (.ref 1), some (.ref 21), some (.int x)] [] (gi_mn i) (21 + 5 * i) (194 + 562 * i) := by
    intro k
    induction k with
    | zero =>
      intro i hi x ex
      have e : i = 6 := by omega
      subst e
      subst ex
      refine gp_go od_Gp_init rfl ?_
      (repeat refine gp_gc [20, 42] od_Gp_init rfl rfl ?_)
      refine gb_ge_t (Int32.le_refl _) ?_
      exact gi_Gp_tail h
    | succ k ih =>
      intro i hi
      exact gi_mn_step (by omega) (fun x ex => ih (i + 1) (by omega) x ex)
  exact key 6 0 rfl 0 rfl

end
