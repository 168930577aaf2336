section
variable {l : Launch} {G : gp_G} {d : Nat} {w : Nat → Nat → Int32} {u : Int64 × (Nat → Int64)} {q : Nat → Nat} {K : Option Value → gp_H → Prop}
/-! ===== the class's search: floors, setUp ===== -/
theorem gp_minN {x y : Nat} (hx : x < 2 ^ 31) (hy : y < 2 ^ 31) : (if nI y < nI x then nI y else nI x) = nI (min x y) := by
  by_cases c : y < x
  · rw [if_pos (nI_lt c hx), Nat.min_eq_right (by omega)]
  · rw [if_neg (nI_nlt (by omega) hy), Nat.min_eq_left (by omega)]
theorem gc_tv_2 : ∀ a b c : Bool, (gc_tv a b c &&& 2 = 0) ↔ a = false := by decide
theorem gc_tv_12 : ∀ a b c : Bool, (gc_tv a b c &&& 12 = 0) ↔ (b = false ∧ c = false) := by decide
def gc_l1 (P : Nat → Nat) (a : Bool) (i : Nat) : Nat := if a then min (P (6 * i)) (min (P (6 * i + 2)) (P (6 * i + 3))) else P (6 * i)
def gc_l2 (P : Nat → Nat) (a b c : Bool) (i : Nat) : Nat := if b = false ∧ c = false then gc_l1 P a i else min (gc_l1 P a i) (min (P (6 * i + 4)) (P (6 * i + 5)))
theorem gc_l1_le (P : Nat → Nat) (a : Bool) (i : Nat) : gc_l1 P a i ≤ P (6 * i) ∧ (a = true → gc_l1 P a i ≤ P (6 * i + 2) ∧ gc_l1 P a i ≤ P (6 * i + 3)) := by
  unfold gc_l1
  cases a with
  | true => simp only [if_true]; omega
  | false => simp
theorem gc_l2_le (P : Nat → Nat) (a b c : Bool) (i : Nat) : gc_l2 P a b c i ≤ P (6 * i) ∧ (a = true → gc_l2 P a b c i ≤ P (6 * i + 2) ∧ gc_l2 P a b c i ≤ P (6 * i + 3)) ∧ ((b = true ∨ c = true) → gc_l2 P a b c i ≤ P (6 * i + 4) ∧ gc_l2 P a b c i ≤ P (6 * i + 5)) := by
  have h1 := gc_l1_le P a i
  unfold gc_l2
  by_cases e : b = false ∧ c = false
  · rw [if_pos e]
    refine ⟨h1.1, h1.2, fun z => ?_⟩
    rw [e.1, e.2] at z
    simp at z
  · rw [if_neg e]
    refine ⟨by omega, fun z => ?_, fun _ => by omega⟩
    have := h1.2 z
    omega
/-- the floor with so many places left -/
def gc_fl (P : Nat → Nat) (A : Nat → Nat → Bool) (n : Nat) : Nat → Nat
  | 0 => 0
  | k + 1 => gc_fl P A n k + gc_l2 P (A (n - 1 - k) 1) (A (n - 1 - k) 2) (A (n - 1 - k) 3) (n - 1 - k)
theorem gc_fl_b {P : Nat → Nat} {A : Nat → Nat → Bool} {n : Nat} (hP : ∀ x, x < 6 * n → P x ≤ 999) : ∀ k, k ≤ n → gc_fl P A n k ≤ 999 * k
  | 0, _ => Nat.le_refl _
  | k + 1, hk => by
    have a := gc_fl_b (A := A) hP k (by omega)
    have b := (gc_l2_le P (A (n - 1 - k) 1) (A (n - 1 - k) 2) (A (n - 1 - k) 3) (n - 1 - k)).1
    have c := hP (6 * (n - 1 - k)) (by omega)
    show gc_fl P A n k + gc_l2 P (A (n - 1 - k) 1) (A (n - 1 - k) 2) (A (n - 1 - k) 3) (n - 1 - k) ≤ 999 * (k + 1)
    omega
section
variable {n : Nat} {P : Nat → Nat} {A : Nat → Nat → Bool}
set_option maxRecDepth 100000 in
theorem sp_Se_setFloors (en : w 65 8 = nI n) (hn : n ≤ 10) (hA : ∀ i, i < n → w 67 i = gc_tv (A i 1) (A i 2) (A i 3)) (hP : ∀ x, x < 6 * n → w 68 x = nI (P x) ∧ P x ≤ 999) (h : ∀ W, (∀ b, b ≠ 69 → W b = w b) → (∀ i, i ≤ n → W 69 i = nI (gc_fl P A n (n - i))) → K none (gv W u q)) : gp_Cal l G (d + 1) m_Se_setFloors [.ref 65] (gv w u q) K := by
  refine gp_enter od_Se_setFloors rfl ?_
  have hP9 : ∀ x, x < 6 * n → P x ≤ 999 := fun x hx => (hP x hx).2
  have loop : ∀ (k : Nat) (W : Nat → Nat → Int32) (x : Int32), k ≤ n → x = nI k - 1 → (∀ b, b ≠ 69 → W b = w b) → (∀ i, k ≤ i → i ≤ n → W 69 i = nI (gc_fl P A n (n - i))) → gp_Go l G (d + 1) m_Se_setFloors K 17 [some (.ref 65), some (.int x), none, none] [] (gv W u q) 0 0 := by
    intro k
    induction k with
    | zero =>
      intro W x hk ex hW hf
      subst ex
      refine gp_go od_Se_setFloors rfl ?_
      (repeat refine gp_gc [17, 68, 104] od_Se_setFloors rfl rfl ?_)
      refine gb1_lt_t (by decide) ?_
      (repeat refine gp_gc [17, 68, 104] od_Se_setFloors rfl rfl ?_)
      exact h W hW (fun i hi => hf i (by omega) hi)
    | succ k ih =>
      intro W x hk ex hW hf
      rw [nI_pred] at ex
      subst ex
      have e6 : nI k * 6 = nI (6 * k) := by show nI k * nI 6 = _; rw [pk_mul]; congr 1; omega
      have e6' : nI k * (Int8.ofInt 6).toInt32 = nI (6 * k) := e6
      have ck : (nI k).toNatClampNeg = k := nI_clamp (by omega)
      have px : ∀ j, j < 6 → w 68 (6 * k + j) = nI (P (6 * k + j)) ∧ P (6 * k + j) ≤ 999 := fun j hj => hP _ (by omega)
      have e68 : W 68 = w 68 := hW 68 (by decide)
      have e67 : W 67 = w 67 := hW 67 (by decide)
      have cx : ∀ j, j < 6 → (nI (6 * k) + nI j).toNatClampNeg = 6 * k + j := fun j hj => by rw [nI_add]; exact nI_clamp (by omega)
      have ix : ∀ j, j < 6 → vp_in (nI (6 * k) + nI j) 60 := fun j hj => by rw [nI_add]; exact vp_in_nI (by omega) (by decide)
      have i0 : vp_in (nI (6 * k)) 60 := vp_in_nI (by omega) (by decide)
      have c0 : (nI (6 * k)).toNatClampNeg = 6 * k := nI_clamp (by omega)
      have ik : vp_in (nI k) 10 := vp_in_nI (by omega) (by decide)
      have p0 := px 0 (by decide)
      have p2 := px 2 (by decide)
      have p3 := px 3 (by decide)
      have p4 := px 4 (by decide)
      have p5 := px 5 (by decide)
      have l1 := gc_l1_le P (A k 1) k
      have p0' : P (6 * k) ≤ 999 := p0.2
      have third : ∀ y : Int32, y = nI (gc_l2 P (A k 1) (A k 2) (A k 3) k) → gp_Go l G (d + 1) m_Se_setFloors K 104 [some (.ref 65), some (.int (nI k)), some (.int (nI (6 * k))), some (.int y)] [] (gv W u q) 0 0 := by
        intro y ey
        have l2 := (gc_l2_le P (A k 1) (A k 2) (A k 3) k).1
        have ef := hf (k + 1) (Nat.le_refl _) hk
        have fb := gc_fl_b (A := A) hP9 (n - (k + 1)) (by omega)
        have c1 : (nI k + Int32.ofInt 1).toNatClampNeg = k + 1 := by show (nI k + 1).toNatClampNeg = _; rw [nI_1]; exact nI_clamp (by omega)
        refine gp_go od_Se_setFloors rfl ?_
        (repeat refine gp_gc [17, 68, 104] od_Se_setFloors rfl rfl ?_)
        refine And.intro (show vp_in (nI k + 1) 11 by rw [nI_1]; exact vp_in_nI (by omega) (by decide)) ?_
        (repeat refine gp_gc [17, 68, 104] od_Se_setFloors rfl rfl ?_)
        refine And.intro (vp_in_nI (by omega) (by decide)) ?_
        (repeat refine gp_gc [17, 68, 104] od_Se_setFloors rfl rfl ?_)
        rw [c1, ck]
        refine gp_drop 2 (gp_drop 3 ?_)
        refine ih (gw W 69 k (W 69 (k + 1) + y)) _ (by omega) (gp_m1 _) (fun b hb => by rw [gw_ne hb]; exact hW b hb) (fun i hi1 hi2 => ?_)
        rw [gw_at]
        by_cases c : i = k
        · rw [if_pos c, c, ef, ey, nI_add]
          congr 1
          have e : n - k = n - (k + 1) + 1 := by omega
          rw [e]
          show _ = gc_fl P A n (n - (k + 1)) + gc_l2 P (A (n - 1 - (n - (k + 1))) 1) (A (n - 1 - (n - (k + 1))) 2) (A (n - 1 - (n - (k + 1))) 3) (n - 1 - (n - (k + 1)))
          rw [show n - 1 - (n - (k + 1)) = k by omega]
        · rw [if_neg c]
          exact hf i (by omega) hi2
      have second : ∀ y : Int32, y = nI (gc_l1 P (A k 1) k) → gp_Go l G (d + 1) m_Se_setFloors K 68 [some (.ref 65), some (.int (nI k)), some (.int (nI (6 * k))), some (.int y)] [] (gv W u q) 0 0 := by
        intro y ey
        have third := third
        unfold gc_l2 at third
        refine gp_go od_Se_setFloors rfl ?_
        (repeat refine gp_gc [17, 68, 104] od_Se_setFloors rfl rfl ?_)
        refine And.intro ik ?_
        (repeat refine gp_gc [17, 68, 104] od_Se_setFloors rfl rfl ?_)
        rw [ck, e67, hA k (by omega)]
        by_cases b : A k 2 = false ∧ A k 3 = false
        · rw [if_pos b] at third
          refine gb1_eq_t ((gc_tv_12 _ _ _).mpr b) ?_
          (repeat refine gp_gc [17, 68, 104] od_Se_setFloors rfl rfl ?_)
          exact third y ey
        · rw [if_neg b] at third
          refine gb1_eq_f (fun z => b ((gc_tv_12 _ _ _).mp z)) ?_
          (repeat refine gp_gc [17, 68, 104] od_Se_setFloors rfl rfl ?_)
          refine And.intro (ix 4 (by decide)) ?_
          (repeat refine gp_gc [17, 68, 104] od_Se_setFloors rfl rfl ?_)
          refine And.intro (ix 5 (by decide)) ?_
          (repeat refine gp_gc [17, 68, 104] od_Se_setFloors rfl rfl ?_)
          refine third _ ?_
          have q4 : W 68 (nI (6 * k) + Int32.ofInt 4).toNatClampNeg = nI (P (6 * k + 4)) := by rw [show (nI (6 * k) + Int32.ofInt 4).toNatClampNeg = 6 * k + 4 from cx 4 (by decide), e68]; exact p4.1
          have q5 : W 68 (nI (6 * k) + Int32.ofInt 5).toNatClampNeg = nI (P (6 * k + 5)) := by rw [show (nI (6 * k) + Int32.ofInt 5).toNatClampNeg = 6 * k + 5 from cx 5 (by decide), e68]; exact p5.1
          rw [q4, q5, gp_minN (by omega) (by omega), ey, gp_minN (by omega) (by omega)]
      refine gp_go od_Se_setFloors rfl ?_
      (repeat refine gp_gc [17, 68, 104] od_Se_setFloors rfl rfl ?_)
      refine gb1_lt_f (nI_pos (by omega)) ?_
      (repeat refine gp_gc [17, 68, 104] od_Se_setFloors rfl rfl ?_)
      rw [e6']
      refine And.intro i0 ?_
      (repeat refine gp_gc [17, 68, 104] od_Se_setFloors rfl rfl ?_)
      refine And.intro ik ?_
      (repeat refine gp_gc [17, 68, 104] od_Se_setFloors rfl rfl ?_)
      have q0 : W 68 (nI (6 * k)).toNatClampNeg = nI (P (6 * k)) := by rw [c0, e68]; exact p0.1
      rw [ck, e67, hA k (by omega), q0]
      have second := second
      unfold gc_l1 at second
      cases a1 : A k 1 with
      | false =>
        rw [a1] at second
        refine gb1_eq_t ((gc_tv_2 _ _ _).mpr rfl) ?_
        (repeat refine gp_gc [17, 68, 104] od_Se_setFloors rfl rfl ?_)
        exact second _ rfl
      | true =>
        rw [a1] at second
        refine gb1_eq_f (fun z => absurd ((gc_tv_2 _ _ _).mp z) (by decide)) ?_
        (repeat refine gp_gc [17, 68, 104] od_Se_setFloors rfl rfl ?_)
        refine And.intro (ix 2 (by decide)) ?_
        (repeat refine gp_gc [17, 68, 104] od_Se_setFloors rfl rfl ?_)
        refine And.intro (ix 3 (by decide)) ?_
        (repeat refine gp_gc [17, 68, 104] od_Se_setFloors rfl rfl ?_)
        refine second _ ?_
        have q2 : W 68 (nI (6 * k) + Int32.ofInt 2).toNatClampNeg = nI (P (6 * k + 2)) := by rw [show (nI (6 * k) + Int32.ofInt 2).toNatClampNeg = 6 * k + 2 from cx 2 (by decide), e68]; exact p2.1
        have q3 : W 68 (nI (6 * k) + Int32.ofInt 3).toNatClampNeg = nI (P (6 * k + 3)) := by rw [show (nI (6 * k) + Int32.ofInt 3).toNatClampNeg = 6 * k + 3 from cx 3 (by decide), e68]; exact p3.1
        have p0' : P (6 * k) ≤ 999 := p0.2
        rw [q2, q3, gp_minN (by omega) (by omega), gp_minN (by omega) (by omega)]
        rfl
  (repeat refine gp_gc [17, 68, 104] od_Se_setFloors rfl rfl ?_)
  refine And.intro (by rw [en]; exact vp_in_nI (by omega) (by decide)) ?_
  (repeat refine gp_gc [17, 68, 104] od_Se_setFloors rfl rfl ?_)
  have cn : (w 65 8).toNatClampNeg = n := by rw [en]; exact nI_clamp (by omega)
  rw [cn]
  refine loop n (gw w 69 n 0) _ (Nat.le_refl n) (by show w 65 8 - 1 = _; rw [en]) (fun b hb => gw_ne hb) (fun i hi1 hi2 => ?_)
  have e : i = n := by omega
  rw [gw_at, if_pos e, e, Nat.sub_self]
  rfl
end

end
