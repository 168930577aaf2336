section
variable {l : Launch} {G : gp_G} {d : Nat} {w : Nat → Nat → Int32} {u : Int64 × (Nat → Int64)} {q : Nat → Nat} {K : Option Value → gp_H → Prop}
/-! ===== the class's chooser: gains, grow ===== -/
section
variable {A t bu c m : Nat} {wo : Int32} {ab r tt : Nat → Int32}
abbrev gB_cd (w : Nat → Nat → Int32) (ab r : Nat → Int32) (m j : Nat) : Prop := gb (ab j) m = true ∧ w (5 + m) 5 &&& (r j ^^^ -1) = 0
set_option maxRecDepth 100000 in
theorem sp_Ch_gains {x y : Int32} (eA : w 72 5 = nI A) (hA : A ≤ 6) (e73 : ∀ j, j < A → w 73 j = ab j) (ex : x = nI c) (hc : c < 12) (ey : y = nI m) (hm : m < 16) (hl : ∀ j, j < A → w 74 (6 * c + j) = r j ∧ w 75 (6 * c + j) = tt j) (h : ∀ W (g : Bool), (∀ b, b ≠ 74 → b ≠ 75 → W b = w b) → (∀ z, z < 6 * c + 6 → W 74 z = w 74 z ∧ W 75 z = w 75 z) → (∀ j, j < A → (W 74 (6 * c + 6 + j), W 75 (6 * c + 6 + j)) = if gB_cd w ab r m j then (r j ||| 1 <<< (nI m &&& 31), tt j ||| 1 <<< (w (5 + m) 1 &&& 31)) else (r j, tt j)) → (g = true ↔ ∃ j, j < A ∧ gB_cd w ab r m j) → K (some (.int (if g then 1 else 0))) (gv W u q)) : gp_Cal l G (d + 0) m_Ch_gains [.ref 72, .int x, .int y] (gv w u q) K := by
  refine gp_enter od_Ch_gains rfl ?_
  subst ex ey
  have cm : (nI m).toNatClampNeg = m := nI_clamp (by omega)
  have loop : ∀ (k j : Nat) (g : Bool) (W : Nat → Nat → Int32), j + k = A → (∀ b, b ≠ 74 → b ≠ 75 → W b = w b) → (∀ z, z < 6 * c + 6 → W 74 z = w 74 z ∧ W 75 z = w 75 z) → (∀ i, i < j → (W 74 (6 * c + 6 + i), W 75 (6 * c + 6 + i)) = if gB_cd w ab r m i then (r i ||| 1 <<< (nI m &&& 31), tt i ||| 1 <<< (w (5 + m) 1 &&& 31)) else (r i, tt i)) → (g = true ↔ ∃ i, i < j ∧ gB_cd w ab r m i) → gp_Go l G (d + 0) m_Ch_gains K 16 [some (.ref 72), some (.int (nI c)), some (.int (nI m)), some (.ref (5 + m)), some (.int (if g then 1 else 0)), some (.int (nI j)), none, none, none] [] (gv W u q) 0 0 := by
    intro k
    induction k with
    | zero =>
      intro j g W hj hW hlow hup hg
      have ej : j = A := by omega
      refine gp_go od_Ch_gains rfl ?_
      (repeat refine gp_gc [16, 80] od_Ch_gains rfl rfl ?_)
      refine gb_ge_t (by rw [hW 72 (by decide) (by decide), eA, ej]; exact Int32.le_refl _) ?_
      (repeat refine gp_gc [16, 80] od_Ch_gains rfl rfl ?_)
      rw [ej] at hup hg
      refine And.intro ?_ (h W g hW hlow hup hg)
      cases g
      · exact Or.inl rfl
      · exact Or.inr rfl
    | succ k ih =>
      intro j g W hj hW hlow hup hg
      have inc : nI j + Int32.ofInt 1 = nI (j + 1) := gp_inc rfl
      have cj : (nI j).toNatClampNeg = j := nI_clamp (by omega)
      have eh : nI c * (Int8.ofInt 6).toInt32 + nI j = nI (6 * c + j) := by
        show nI c * nI 6 + nI j = _
        rw [pk_mul, nI_add]
        congr 1
        omega
      have en : nI (6 * c + j) + (Int8.ofInt 6).toInt32 = nI (6 * c + 6 + j) := by
        show nI (6 * c + j) + nI 6 = _
        rw [nI_add]
        congr 1
        omega
      have ch : (nI (6 * c + j)).toNatClampNeg = 6 * c + j := nI_clamp (by omega)
      have cn : (nI (6 * c + 6 + j)).toNatClampNeg = 6 * c + 6 + j := nI_clamp (by omega)
      have ih1 : vp_in (nI (6 * c + j)) 78 := vp_in_nI (by omega) (by decide)
      have ih2 : vp_in (nI (6 * c + 6 + j)) 78 := vp_in_nI (by omega) (by decide)
      have e74 : W 74 (6 * c + j) = r j := by rw [(hlow _ (by omega)).1]; exact (hl j (by omega)).1
      have e75 : W 75 (6 * c + j) = tt j := by rw [(hlow _ (by omega)).2]; exact (hl j (by omega)).2
      have eM : W (5 + m) = w (5 + m) := hW _ (by omega) (by omega)
      have e73' : W 73 j = ab j := by rw [hW 73 (by decide) (by decide)]; exact e73 j (by omega)
      -- behind the two rows
      have fin : ∀ (R : Bool) (a b : Int32), (R = true ↔ gB_cd w ab r m j) → (a, b) = (if gB_cd w ab r m j then (r j ||| 1 <<< (nI m &&& 31), tt j ||| 1 <<< (w (5 + m) 1 &&& 31)) else (r j, tt j)) → gp_Go l G (d + 0) m_Ch_gains K 16 [some (.ref 72), some (.int (nI c)), some (.int (nI m)), some (.ref (5 + m)), some (.int (if (g || R) then 1 else 0)), some (.int (nI (j + 1))), none, none, none] [] (gv (gw (gw W 74 (6 * c + 6 + j) a) 75 (6 * c + 6 + j) b) u q) 0 0 := by
        intro R a b hR hab
        refine ih (j + 1) (g || R) _ (by omega) (fun b h1 h2 => by rw [gw_ne h2, gw_ne h1]; exact hW b h1 h2) (fun z hz => ?_) (fun i hi => ?_) ?_
        · have q1 : gw (gw W 74 (6 * c + 6 + j) a) 75 (6 * c + 6 + j) b 74 z = W 74 z := by
            show upd (W 74) (6 * c + 6 + j) a z = _
            exact pk_un (by omega)
          have q2 : gw (gw W 74 (6 * c + 6 + j) a) 75 (6 * c + 6 + j) b 75 z = W 75 z := by
            show upd (W 75) (6 * c + 6 + j) b z = _
            exact pk_un (by omega)
          rw [q1, q2]
          exact hlow z hz
        · show (upd (W 74) (6 * c + 6 + j) a (6 * c + 6 + i), upd (W 75) (6 * c + 6 + j) b (6 * c + 6 + i)) = _
          by_cases z : i = j
          · rw [z, pk_us, pk_us]
            exact hab
          · rw [pk_un (by omega), pk_un (by omega)]
            exact hup i (by omega)
        · rw [Bool.or_eq_true, hg, hR]
          constructor
          · intro z
            rcases z with ⟨i, hi, z⟩ | z
            · exact ⟨i, by omega, z⟩
            · exact ⟨j, by omega, z⟩
          · intro ⟨i, hi, z⟩
            by_cases e : i = j
            · rw [e] at z; exact Or.inr z
            · exact Or.inl ⟨i, by omega, z⟩
      have yes : gB_cd w ab r m j → gp_Go l G (d + 0) m_Ch_gains K 80 [some (.ref 72), some (.int (nI c)), some (.int (nI m)), some (.ref (5 + m)), some (.int (if g then 1 else 0)), some (.int (nI j)), some (.int (nI (6 * c + j))), some (.int (nI (6 * c + 6 + j))), some (.int 1)] [] (gv W u q) 0 0 := by
        intro cd
        have fin := fin true (r j ||| 1 <<< (nI m &&& 31)) (tt j ||| 1 <<< (w (5 + m) 1 &&& 31)) ⟨fun _ => cd, fun _ => rfl⟩ (by rw [if_pos cd])
        have eg : (if g then (1 : Int32) else 0) ||| 1 = (if (g || true) then 1 else 0) := by cases g <;> decide
        refine gp_go od_Ch_gains rfl ?_
        (repeat refine gp_gc [16, 80] od_Ch_gains rfl rfl ?_)
        refine And.intro ih1 ?_
        rw [ch, e74]
        (repeat refine gp_gc [16, 80] od_Ch_gains rfl rfl ?_)
        refine gb1_eq_f (by decide) ?_
        (repeat refine gp_gc [16, 80] od_Ch_gains rfl rfl ?_)
        refine And.intro ih2 ?_
        rw [cn, show (gv W u q).set 74 (.inl (0, 78, .inl (upd (W 74) (6 * c + 6 + j) (r j ||| Int32.ofInt 1 <<< (nI m &&& 31))))) = gv (gw W 74 (6 * c + 6 + j) (r j ||| 1 <<< (nI m &&& 31))) u q from rfl]
        (repeat refine gp_gc [16, 80] od_Ch_gains rfl rfl ?_)
        refine And.intro ih1 ?_
        rw [ch, show gw W 74 (6 * c + 6 + j) (r j ||| 1 <<< (nI m &&& 31)) 75 (6 * c + j) = tt j from e75]
        (repeat refine gp_gc [16, 80] od_Ch_gains rfl rfl ?_)
        refine gb1_eq_f (by decide) ?_
        (repeat refine gp_gc [16, 80] od_Ch_gains rfl rfl ?_)
        refine gs_get (gv_mark hm) rfl rfl ?_
        rw [show gw W 74 (6 * c + 6 + j) (r j ||| 1 <<< (nI m &&& 31)) (5 + m) = w (5 + m) by rw [gw_ne (by omega)]; exact eM]
        (repeat refine gp_gc [16, 80] od_Ch_gains rfl rfl ?_)
        refine And.intro ih2 ?_
        rw [cn]
        (repeat refine gp_gc [16, 80] od_Ch_gains rfl rfl ?_)
        rw [inc]
        refine gp_drop 6 (gp_drop 7 (gp_drop 8 ?_))
        rw [← eg] at fin
        exact fin
      have no : ¬ gB_cd w ab r m j → gp_Go l G (d + 0) m_Ch_gains K 80 [some (.ref 72), some (.int (nI c)), some (.int (nI m)), some (.ref (5 + m)), some (.int (if g then 1 else 0)), some (.int (nI j)), some (.int (nI (6 * c + j))), some (.int (nI (6 * c + 6 + j))), some (.int 0)] [] (gv W u q) 0 0 := by
        intro cd
        have fin := fin false (r j) (tt j) ⟨fun z => absurd z (by decide), fun z => absurd z cd⟩ (by rw [if_neg cd])
        have eg : (if g then (1 : Int32) else 0) ||| 0 = (if (g || false) then 1 else 0) := by cases g <;> decide
        refine gp_go od_Ch_gains rfl ?_
        (repeat refine gp_gc [16, 80] od_Ch_gains rfl rfl ?_)
        refine And.intro ih1 ?_
        rw [ch, e74]
        (repeat refine gp_gc [16, 80] od_Ch_gains rfl rfl ?_)
        refine gb1_eq_t rfl ?_
        (repeat refine gp_gc [16, 80] od_Ch_gains rfl rfl ?_)
        refine And.intro ih2 ?_
        rw [cn, show r j ||| Int32.ofInt 0 = r j from Int32.or_zero, show (gv W u q).set 74 (.inl (0, 78, .inl (upd (W 74) (6 * c + 6 + j) (r j)))) = gv (gw W 74 (6 * c + 6 + j) (r j)) u q from rfl]
        (repeat refine gp_gc [16, 80] od_Ch_gains rfl rfl ?_)
        refine And.intro ih1 ?_
        rw [ch, show gw W 74 (6 * c + 6 + j) (r j) 75 (6 * c + j) = tt j from e75]
        (repeat refine gp_gc [16, 80] od_Ch_gains rfl rfl ?_)
        refine gb1_eq_t rfl ?_
        (repeat refine gp_gc [16, 80] od_Ch_gains rfl rfl ?_)
        refine And.intro ih2 ?_
        rw [cn, show tt j ||| Int32.ofInt 0 = tt j from Int32.or_zero]
        (repeat refine gp_gc [16, 80] od_Ch_gains rfl rfl ?_)
        rw [inc]
        refine gp_drop 6 (gp_drop 7 (gp_drop 8 ?_))
        rw [← eg] at fin
        exact fin
      refine gp_go od_Ch_gains rfl ?_
      (repeat refine gp_gc [16, 80] od_Ch_gains rfl rfl ?_)
      refine gb_ge_f (by rw [hW 72 (by decide) (by decide), eA]; exact nI_ge (by omega) (by omega)) ?_
      (repeat refine gp_gc [16, 80] od_Ch_gains rfl rfl ?_)
      rw [eh, en]
      refine And.intro (vp_in_nI (by omega) (by decide)) ?_
      rw [cj, e73']
      (repeat refine gp_gc [16, 80] od_Ch_gains rfl rfl ?_)
      by_cases b1 : (ab j >>> (nI m &&& 31)) &&& 1 = 1
      rotate_left
      · refine gb_ne_t b1 ?_
        (repeat refine gp_gc [16, 80] od_Ch_gains rfl rfl ?_)
        exact no (fun z => b1 ((gb_t1 _ (by omega)).mpr z.1))
      refine gb_ne_f b1 ?_
      (repeat refine gp_gc [16, 80] od_Ch_gains rfl rfl ?_)
      refine gs_get (gv_mark hm) rfl rfl ?_
      rw [eM]
      (repeat refine gp_gc [16, 80] od_Ch_gains rfl rfl ?_)
      refine And.intro ih1 ?_
      rw [ch, e74]
      (repeat refine gp_gc [16, 80] od_Ch_gains rfl rfl ?_)
      by_cases b2 : w (5 + m) 5 &&& (r j ^^^ -1) = 0
      · refine gb1_ne_f b2 ?_
        (repeat refine gp_gc [16, 80] od_Ch_gains rfl rfl ?_)
        exact yes ⟨(gb_t1 _ (by omega)).mp b1, b2⟩
      · refine gb1_ne_t b2 ?_
        (repeat refine gp_gc [16, 80] od_Ch_gains rfl rfl ?_)
        exact no (fun z => b2 z.2)
  (repeat refine gp_gc [16, 80] od_Ch_gains rfl rfl ?_)
  refine And.intro (vp_in_nI hm (by decide)) ⟨_, rfl, ?_⟩
  rw [cm]
  (repeat refine gp_gc [16, 80] od_Ch_gains rfl rfl ?_)
  exact loop A 0 false w (by omega) (fun _ _ _ => rfl) (fun _ _ => ⟨rfl, rfl⟩) (fun i hi => absurd hi (by omega)) ⟨fun z => absurd z (by decide), fun ⟨i, hi, _⟩ => absurd hi (by omega)⟩
def gB_aS (w : Nat → Nat → Int32) (m : Nat) (i : Nat) (s : Int32) : Int32 := if gc_abl w m (w 1 4) (-1) i then s ||| 1 <<< (nI i &&& 31) else s
set_option maxRecDepth 100000 in
theorem sp_Ch_ableMarks (hm : m < 7) (et : w 72 6 = nI t) (ht : t ≤ 16) (hk : ∀ i, i < 16 → vp_in (w (5 + i) 0) 7) (h : K (some (.int (gp_it (gB_aS w m) 0 t 0))) (gv w u q)) : gp_Cal l G (d + 2) m_Ch_ableMarks [.ref 72, .ref (gp_ma m)] (gv w u q) K := by
  refine gp_enter od_Ch_ableMarks rfl ?_
  have loop : ∀ (k j : Nat) (s : Int32), j + k = t → K (some (.int (gp_it (gB_aS w m) j k s))) (gv w u q) → gp_Go l G (d + 2) m_Ch_ableMarks K 4 [some (.ref 72), some (.ref (gp_ma m)), some (.int s), some (.int (nI j))] [] (gv w u q) 0 0 := by
    intro k
    induction k with
    | zero =>
      intro j s hj hh
      have ej : j = t := by omega
      refine gp_go od_Ch_ableMarks rfl ?_
      (repeat refine gp_gc [4] od_Ch_ableMarks rfl rfl ?_)
      refine gb_ge_t (by rw [et, ej]; exact Int32.le_refl _) ?_
      (repeat refine gp_gc [4] od_Ch_ableMarks rfl rfl ?_)
      exact hh
    | succ k ih =>
      intro j s hj hh
      have inc : nI j + Int32.ofInt 1 = nI (j + 1) := gp_inc rfl
      have hh : K (some (.int (gp_it (gB_aS w m) (j + 1) k (gB_aS w m j s)))) (gv w u q) := hh
      refine gp_go od_Ch_ableMarks rfl ?_
      (repeat refine gp_gc [4] od_Ch_ableMarks rfl rfl ?_)
      refine gb_ge_f (by rw [et]; exact nI_ge (by omega) (by omega)) ?_
      (repeat refine gp_gc [4] od_Ch_ableMarks rfl rfl ?_)
      refine sp_Pl_isAble (d := d) hm rfl (by omega) (hk j (by omega)) (fun b => ?_) (fun b => ?_)
      · have e : gB_aS w m j s = s ||| 1 <<< (nI j &&& 31) := if_pos b
        rw [e] at hh
        (repeat refine gp_gc [4] od_Ch_ableMarks rfl rfl ?_)
        refine gb1_eq_f (by decide) ?_
        (repeat refine gp_gc [4] od_Ch_ableMarks rfl rfl ?_)
        rw [inc]
        exact ih (j + 1) _ (by omega) hh
      · have e : gB_aS w m j s = s := if_neg b
        rw [e] at hh
        (repeat refine gp_gc [4] od_Ch_ableMarks rfl rfl ?_)
        refine gb1_eq_t rfl ?_
        (repeat refine gp_gc [4] od_Ch_ableMarks rfl rfl ?_)
        rw [inc]
        exact ih (j + 1) _ (by omega) hh
  (repeat refine gp_gc [4] od_Ch_ableMarks rfl rfl ?_)
  exact loop t 0 0 (by omega) h
theorem gB_a_b {w : Nat → Nat → Int32} {m : Nat} : ∀ (k : Nat), k ≤ 16 → ∀ i, i < 32 → (gb (gp_it (gB_aS w m) 0 k 0) i = true ↔ i < k ∧ gc_abl w m (w 1 4) (-1) i)
  | 0, _, i, hi => by
    show gb 0 i = true ↔ _
    rw [gb_0]
    exact ⟨fun z => absurd z (by decide), fun z => absurd z.1 (by omega)⟩
  | k + 1, hk, i, hi => by
    have ih := gB_a_b (w := w) (m := m) k (by omega) i hi
    rw [gp_it_snoc, Nat.zero_add]
    generalize gp_it (gB_aS w m) 0 k 0 = x at ih ⊢
    unfold gB_aS
    by_cases c : gc_abl w m (w 1 4) (-1) k
    · rw [if_pos c, gb_or, Bool.or_eq_true, ih, gb_1 (by omega) hi, decide_eq_true_iff]
      constructor
      · intro z
        rcases z with z | z
        · exact ⟨by omega, z.2⟩
        · rw [z]; exact ⟨by omega, c⟩
      · intro z
        by_cases e : i = k
        · exact Or.inr e
        · exact Or.inl ⟨by omega, z.2⟩
    · rw [if_neg c, ih]
      constructor
      · intro z; exact ⟨by omega, z.2⟩
      · intro z
        by_cases e : i = k
        · rw [e] at z; exact absurd z.2 c
        · exact ⟨by omega, z.2⟩
end

end
