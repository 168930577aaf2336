section
variable {l : Launch} {G : gp_G} {d : Nat} {w : Nat → Nat → Int32} {u : Int64 × (Nat → Int64)} {q : Nat → Nat} {K : Option Value → gp_H → Prop}
/-! ===== texts: what is read can be worked out, on a small pile ===== -/
def gf_eb (F : Nat → Int32) : gf_L → List Int32 → Option (List Int32)
  | [], s => some s
  | i :: L, s => if i.1 < 14 ∧ 64 ≤ s.length then none else (match gf_ev1 F i s with
    | some s' => gf_eb F L s'
    | none => none)
theorem gf_eb_ev {F : Nat → Int32} : ∀ {L : gf_L} {s r : List Int32}, gf_eb F L s = some r → gf_ev F L s = some r
  | [], s, r, h => h
  | i :: L, s, r, h => by
    unfold gf_eb at h
    unfold gf_ev
    split at h
    · simp at h
    · cases e : gf_ev1 F i s with
      | none => rw [e] at h; simp at h
      | some s' =>
        rw [e] at h
        exact gf_eb_ev (L := L) h
theorem gf_eb_app {F : Nat → Int32} : ∀ {A B : gf_L} {s r : List Int32}, gf_eb F A s = some r → gf_eb F (A ++ B) s = gf_eb F B r
  | [], B, s, r, h => by
    simp only [gf_eb, Option.some.injEq] at h
    subst h
    rfl
  | i :: A, B, s, r, h => by
    show (if i.1 < 14 ∧ 64 ≤ s.length then none else (match gf_ev1 F i s with
      | some s' => gf_eb F (A ++ B) s'
      | none => none)) = gf_eb F B r
    unfold gf_eb at h
    split at h
    · simp at h
    · rename_i c
      rw [if_neg c]
      cases e : gf_ev1 F i s with
      | none => rw [e] at h; simp at h
      | some s' =>
        rw [e] at h
        exact gf_eb_app (A := A) (B := B) h
def gy_wE (m : Nat) (L : gf_L) : Prop := ∀ (F : Nat → Int32) (s : List Int32), s.length + m ≤ 64 → ∃ r, gf_eb F L s = some (r :: s)
def gy_wB (m : Nat) (L : gf_L) : Prop := ∀ (F : Nat → Int32) (s : List Int32), s.length + m ≤ 64 → ∃ r, (r = 0 ∨ r = 1) ∧ gf_eb F L s = some (r :: s)
theorem gy_wE_mono {m m' : Nat} {L : gf_L} (h : m ≤ m') (hw : gy_wE m L) : gy_wE m' L := fun F s hs => hw F s (by omega)
theorem gy_wB_mono {m m' : Nat} {L : gf_L} (h : m ≤ m') (hw : gy_wB m L) : gy_wB m' L := fun F s hs => hw F s (by omega)
theorem gf_eb_2 {F : Nat → Int32} {op : Nat} {a b : Int32} {s : List Int32} (h1 : 14 ≤ op) (h2 : op ≠ 17) (h3 : op ≠ 21) : gf_eb F [(op, 0)] (b :: a :: s) = some (gf_both op a b :: s) := by
  unfold gf_eb
  rw [if_neg (fun z => by have := z.1; simp at this; omega)]
  unfold gf_ev1
  rw [if_neg (show ¬ op < 14 by omega), if_neg (show ¬ op = 17 from h2), if_neg (show ¬ op = 21 from h3)]
  rfl
theorem gy_w3 {m1 m2 m : Nat} {L U : gf_L} {op : Nat} (hL : gy_wE m1 L) (hU : gy_wE m2 U) (h1 : 14 ≤ op) (h2 : op ≠ 17) (h3 : op ≠ 21) (hm1 : m1 ≤ m) (hm2 : m2 + 1 ≤ m) : gy_wE m (L ++ U ++ [(op, 0)]) := by
  intro F s hs
  obtain ⟨r1, e1⟩ := hL F s (by omega)
  obtain ⟨r2, e2⟩ := hU F (r1 :: s) (by simp; omega)
  refine ⟨gf_both op r1 r2, ?_⟩
  rw [List.append_assoc, gf_eb_app e1, gf_eb_app e2, gf_eb_2 h1 h2 h3]
theorem gy_wE_unit {kd nm : Nat → Nat} {j j' : Nat} {L : gf_L} (h : gy_unit kd nm j = .inr (j', L)) : gy_wE 1 L := by
  unfold gy_unit at h
  split at h
  · simp only [Sum.inr.injEq, Prod.mk.injEq] at h
    obtain ⟨-, rfl⟩ := h
    intro F s hs
    refine ⟨nI (nm j), ?_⟩
    unfold gf_eb
    rw [if_neg (by omega)]
    rfl
  · split at h
    · simp only [Sum.inr.injEq, Prod.mk.injEq] at h
      obtain ⟨-, rfl⟩ := h
      intro F s hs
      refine ⟨F (kd j - 8), ?_⟩
      unfold gf_eb
      rw [if_neg (by omega)]
      unfold gf_ev1
      rw [if_pos (show kd j - 8 < 14 by omega)]
      simp only
      rw [if_neg (show ¬ kd j - 8 = 0 by omega)]
      rfl
    · simp at h
theorem gy_wE_part {m : Nat} {L : gf_L} {v : Int32} (hL : gy_wE m L) (hv : ¬ v = 0) : gy_wE m (L ++ [(17, v)]) := by
  intro F s hs
  obtain ⟨r1, e1⟩ := hL F s hs
  refine ⟨r1 / v, ?_⟩
  rw [gf_eb_app e1]
  unfold gf_eb
  rw [if_neg (fun z => absurd z.1 (show ¬ 17 < 14 by decide))]
  unfold gf_ev1
  rw [if_neg (show ¬ 17 < 14 by decide), if_pos rfl]
  simp only
  rw [if_neg hv]
  rfl
section
variable {kd nm : Nat → Nat}
theorem gy_wE_T (hn : ∀ j, kd j = 30 → nm j < 10000) : ∀ (f j : Nat) (L : gf_L) (j' : Nat) (L' : gf_L), gy_T kd nm f j L = .inr (j', L') → gy_wE 2 L → gy_wE 2 L'
  | 0, j, L, j', L', h, hL => by
    simp only [gy_T, Sum.inr.injEq, Prod.mk.injEq] at h
    obtain ⟨-, rfl⟩ := h
    exact hL
  | f + 1, j, L, j', L', h, hL => by
    unfold gy_T at h
    split at h
    · split at h
      · simp at h
      · rename_i j1 U e1
        exact gy_wE_T hn f j1 _ j' L' h (gy_w3 hL (gy_wE_unit e1) (by decide) (by decide) (by decide) (by decide) (by decide))
    · split at h
      · split at h
        · split at h
          · simp at h
          · rename_i c1 c2 c3
            exact gy_wE_T hn f _ _ j' L' h (gy_wE_part hL (nI_ne0 (by omega) (by have := hn _ c2; omega)))
        · simp at h
      · simp only [Sum.inr.injEq, Prod.mk.injEq] at h
        obtain ⟨-, rfl⟩ := h
        exact hL
theorem gy_wE_P (hn : ∀ j, kd j = 30 → nm j < 10000) {j j' : Nat} {L : gf_L} (h : gy_P kd nm j = .inr (j', L)) : gy_wE 2 L := by
  unfold gy_P at h
  split at h
  · simp at h
  · rename_i j1 U e1
    exact gy_wE_T hn _ _ _ _ _ h (gy_wE_mono (by decide) (gy_wE_unit e1))
theorem gy_wE_EL (hn : ∀ j, kd j = 30 → nm j < 10000) : ∀ (f j : Nat) (L : gf_L) (j' : Nat) (L' : gf_L), gy_EL kd nm f j L = .inr (j', L') → gy_wE 3 L → gy_wE 3 L'
  | 0, j, L, j', L', h, hL => by
    simp only [gy_EL, Sum.inr.injEq, Prod.mk.injEq] at h
    obtain ⟨-, rfl⟩ := h
    exact hL
  | f + 1, j, L, j', L', h, hL => by
    unfold gy_EL at h
    split at h
    · split at h
      · simp at h
      · rename_i j1 U e1
        refine gy_wE_EL hn f j1 _ j' L' h (gy_w3 hL (gy_wE_P hn e1) ?_ ?_ ?_ (by decide) (by decide))
        all_goals split <;> decide
    · simp only [Sum.inr.injEq, Prod.mk.injEq] at h
      obtain ⟨-, rfl⟩ := h
      exact hL
theorem gy_wE_E (hn : ∀ j, kd j = 30 → nm j < 10000) {j j' : Nat} {L : gf_L} (h : gy_E kd nm j = .inr (j', L)) : gy_wE 3 L := by
  unfold gy_E at h
  split at h
  · simp at h
  · rename_i j1 U e1
    exact gy_wE_EL hn _ _ _ _ _ h (gy_wE_mono (by decide) (gy_wE_P hn e1))
theorem gf_both_cmp {op : Nat} (h : op = 18 ∨ op = 19 ∨ op = 20) (a b : Int32) : gf_both op a b = 0 ∨ gf_both op a b = 1 := by
  rcases h with rfl | rfl | rfl
  · show (if a < b then (1 : Int32) else 0) = 0 ∨ (if a < b then (1 : Int32) else 0) = 1
    split
    · exact Or.inr rfl
    · exact Or.inl rfl
  · show (if a = b then (1 : Int32) else 0) = 0 ∨ (if a = b then (1 : Int32) else 0) = 1
    split
    · exact Or.inr rfl
    · exact Or.inl rfl
  · show (if b < a then (1 : Int32) else 0) = 0 ∨ (if b < a then (1 : Int32) else 0) = 1
    split
    · exact Or.inr rfl
    · exact Or.inl rfl
theorem gf_both_ao {op : Nat} (h : op = 22 ∨ op = 23) {a b : Int32} (ha : a = 0 ∨ a = 1) (hb : b = 0 ∨ b = 1) : gf_both op a b = 0 ∨ gf_both op a b = 1 := by
  rcases h with rfl | rfl <;> rcases ha with rfl | rfl <;> rcases hb with rfl | rfl <;> decide
theorem gy_wB_cmp (hn : ∀ j, kd j = 30 → nm j < 10000) {j j' : Nat} {L : gf_L} (h : gy_cmp kd nm j = .inr (j', L)) : gy_wB 4 L := by
  unfold gy_cmp at h
  split at h
  · simp at h
  · rename_i j1 U e1
    split at h
    · rename_i c1
      split at h
      · simp at h
      · rename_i j2 V e2
        simp only [Sum.inr.injEq, Prod.mk.injEq] at h
        obtain ⟨-, rfl⟩ := h
        intro F s hs
        obtain ⟨r1, x1⟩ := gy_wE_E hn e1 F s (by omega)
        obtain ⟨r2, x2⟩ := gy_wE_E hn e2 F (r1 :: s) (by simp; omega)
        refine ⟨gf_both (kd j1 - 42) r1 r2, gf_both_cmp (by omega) r1 r2, ?_⟩
        rw [List.append_assoc, gf_eb_app x1, gf_eb_app x2, gf_eb_2 (by omega) (by omega) (by omega)]
    · simp at h
theorem gy_wB_L {sub : Nat → gy} {k op m : Nat} (ho : op = 22 ∨ op = 23) (hs : ∀ j j' L, sub j = .inr (j', L) → gy_wB m L) : ∀ (f j : Nat) (L : gf_L) (j' : Nat) (L' : gf_L), gy_L kd sub k op f j L = .inr (j', L') → gy_wB (m + 1) L → gy_wB (m + 1) L'
  | 0, j, L, j', L', h, hL => by
    simp only [gy_L, Sum.inr.injEq, Prod.mk.injEq] at h
    obtain ⟨-, rfl⟩ := h
    exact hL
  | f + 1, j, L, j', L', h, hL => by
    unfold gy_L at h
    split at h
    · split at h
      · simp at h
      · rename_i j1 U e1
        refine gy_wB_L ho hs f j1 _ j' L' h ?_
        intro F s hs'
        obtain ⟨r1, y1, x1⟩ := hL F s (by omega)
        obtain ⟨r2, y2, x2⟩ := hs _ _ _ e1 F (r1 :: s) (by simp; omega)
        refine ⟨gf_both op r1 r2, gf_both_ao ho y1 y2, ?_⟩
        rw [List.append_assoc, gf_eb_app x1, gf_eb_app x2, gf_eb_2 (by omega) (by omega) (by omega)]
    · simp only [Sum.inr.injEq, Prod.mk.injEq] at h
      obtain ⟨-, rfl⟩ := h
      exact hL
theorem gy_wB_ev {one : Nat → gy} {m : Nat} (hs : ∀ j j' L, one j = .inr (j', L) → gy_wB m L) (j j' : Nat) (L : gf_L) (h : gy_ev kd one j = .inr (j', L)) : gy_wB (m + 1) L := by
  unfold gy_ev at h
  split at h
  · simp at h
  · rename_i j1 U e1
    exact gy_wB_L (Or.inl rfl) hs _ _ _ _ _ h (gy_wB_mono (by omega) (hs _ _ _ e1))
theorem gy_wB_an {one : Nat → gy} {m : Nat} (hs : ∀ j j' L, one j = .inr (j', L) → gy_wB m L) (j j' : Nat) (L : gf_L) (h : gy_an kd one j = .inr (j', L)) : gy_wB (m + 2) L := by
  unfold gy_an at h
  split at h
  · simp at h
  · rename_i j1 U e1
    exact gy_wB_L (m := m + 1) (Or.inr rfl) (gy_wB_ev hs) _ _ _ _ _ h (gy_wB_mono (by omega) (gy_wB_ev hs _ _ _ e1))
theorem gy_wB_one (hn : ∀ j, kd j = 30 → nm j < 10000) : ∀ (h j j' : Nat) (L : gf_L), gy_one kd nm h j = .inr (j', L) → gy_wB (4 + 2 * h) L
  | 0, j, j', L, h => by
    unfold gy_one at h
    split at h
    · simp at h
    · exact gy_wB_cmp hn h
  | m + 1, j, j', L, h => by
    unfold gy_one at h
    split at h
    · split at h
      · simp at h
      · rename_i j1 U e1
        have w1 := gy_wB_one hn m _ _ _ e1
        simp only [Sum.inr.injEq, Prod.mk.injEq] at h
        obtain ⟨-, rfl⟩ := h
        intro F s hs
        obtain ⟨r1, y1, x1⟩ := w1 F s (by omega)
        refine ⟨1 - r1, by rcases y1 with rfl | rfl <;> decide, ?_⟩
        rw [gf_eb_app x1]
        rfl
    · split at h
      · split at h
        · simp at h
        · rename_i j1 U e1
          have w1 := gy_wB_an (gy_wB_one hn m) _ _ _ e1
          split at h
          · simp only [Sum.inr.injEq, Prod.mk.injEq] at h
            obtain ⟨-, rfl⟩ := h
            exact gy_wB_mono (by omega) w1
          · simp at h
      · exact gy_wB_mono (by omega) (gy_wB_cmp hn h)
def gy_wD (D : gy_D) : Prop := (∀ p, p ∈ D.2.2.2.2.2.1 → gy_wE 3 p.1 ∧ (p.2 = [] ∨ gy_wB 22 p.2)) ∧ ∀ L, D.2.2.2.2.2.2 = some L → gy_wE 3 L
theorem gy_wD_pr (hn : ∀ j, kd j = 30 → nm j < 10000) {j j' : Nat} {E B : gf_L} (h : gy_pr kd nm j = .inr (j', E, B)) : gy_wE 3 E ∧ (B = [] ∨ gy_wB 22 B) := by
  unfold gy_pr at h
  split at h
  · simp at h
  · rename_i j1 E1 e1
    split at h
    · split at h
      · simp at h
      · rename_i j2 B2 e2
        simp only [Sum.inr.injEq, Prod.mk.injEq] at h
        obtain ⟨-, rfl, rfl⟩ := h
        exact ⟨gy_wE_E hn e1, Or.inr (gy_wB_an (m := 20) (gy_wB_one hn 8) _ _ _ e2)⟩
    · simp only [Sum.inr.injEq, Prod.mk.injEq] at h
      obtain ⟨-, rfl, rfl⟩ := h
      exact ⟨gy_wE_E hn e1, Or.inl rfl⟩
theorem gy_wD_body (hn : ∀ j, kd j = 30 → nm j < 10000) {D D' : gy_D} {j j' : Nat} (h : gy_body kd nm D j = .inr (j', D')) (hD : gy_wD D) : gy_wD D' := by
  unfold gy_body at h
  split at h
  · split at h
    · simp at h
    · rename_i j1 E B e1
      simp only [Sum.inr.injEq, Prod.mk.injEq] at h
      obtain ⟨-, rfl⟩ := h
      refine ⟨fun p hp => ?_, hD.2⟩
      rcases List.mem_append.mp hp with hp | hp
      · exact hD.1 p hp
      · rw [List.mem_singleton] at hp
        subst hp
        exact gy_wD_pr hn e1
  · split at h
    · split at h
      · simp at h
      · rename_i j1 E e1
        simp only [Sum.inr.injEq, Prod.mk.injEq] at h
        obtain ⟨-, rfl⟩ := h
        refine ⟨hD.1, fun L hL => ?_⟩
        have hL : some E = some L := hL
        cases hL
        exact gy_wE_E hn e1
    · split at h
      · split at h
        · simp only [Sum.inr.injEq, Prod.mk.injEq] at h
          obtain ⟨-, rfl⟩ := h
          exact hD
        · simp at h
      · simp at h
theorem gy_wD_line (hn : ∀ j, kd j = 30 → nm j < 10000) {D D' : gy_D} {j j' : Nat} (h : gy_line kd nm D j = .inr (j', D')) (hD : gy_wD D) : gy_wD D' := by
  unfold gy_line at h
  split at h
  · simp at h
  · split at h
    · simp at h
    · unfold gy_semi at h
      split at h
      · simp at h
      · rename_i j1 D1 e1
        split at h
        · simp only [Sum.inr.injEq, Prod.mk.injEq] at h
          obtain ⟨-, rfl⟩ := h
          exact (gy_wD_body hn e1 hD : gy_wD D1)
        · simp at h
theorem gy_wD_tx (hn : ∀ j, kd j = 30 → nm j < 10000) : ∀ (f j : Nat) (D D' : gy_D), gy_tx kd nm f j D = .inr D' → gy_wD D → gy_wD D'
  | 0, j, D, D', h, hD => by
    simp only [gy_tx, Sum.inr.injEq] at h
    subst h
    exact hD
  | f + 1, j, D, D', h, hD => by
    unfold gy_tx at h
    split at h
    · simp only [Sum.inr.injEq] at h
      subst h
      exact hD
    · split at h
      · simp at h
      · rename_i j1 D1 e1
        exact gy_wD_tx hn f j1 D1 D' h (gy_wD_line hn e1 hD)
end
theorem gf_wfE_of {m : Nat} {L : gf_L} (hm : m ≤ 64) (h : gy_wE m L) : gf_wfE L := fun F => by
  obtain ⟨r, hr⟩ := h F [] (by simpa using hm)
  exact ⟨r, gf_eb_ev hr⟩
theorem gf_wfB_of {m : Nat} {L : gf_L} (hm : m ≤ 64) (h : gy_wB m L) : gf_wfB L := fun F => by
  obtain ⟨r, h1, hr⟩ := h F [] (by simpa using hm)
  exact ⟨r, gf_eb_ev hr, h1⟩

end
