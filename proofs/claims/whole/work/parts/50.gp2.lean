section
variable {l : Launch} {G : gp_G} {d : Nat} {w : Nat → Nat → Int32} {u : Int64 × (Nat → Int64)} {q : Nat → Nat} {K : Option Value → gp_H → Prop}
/-! ===== the class's methods: tell, of, end, fault, look ===== -/
section
variable {i : Nat}
set_option maxRecDepth 100000 in
theorem sp_Gp_tellNeeds {m v : Int32} (hi : i < 16) (h1 : 0 ≤ v → v ≤ 1 <<< (m &&& 31) - 1 → K (some (.int 1)) (gv (gw w (5 + i) 5 v) u q)) (h0 : ¬ (0 ≤ v ∧ v ≤ 1 <<< (m &&& 31) - 1) → K (some (.int 0)) (gv w u q)) : gp_Cal l G (d + 1) m_Gp_tellNeeds [.ref (5 + i), .int m, .int v] (gv w u q) K := by
  refine gp_enter od_Gp_tellNeeds rfl ?_
  (repeat refine gp_gc [] od_Gp_tellNeeds rfl rfl ?_)
  refine sp_Gp_within (d := d) (fun a b => ?_) (fun c => ?_)
  · (repeat refine gp_gc [] od_Gp_tellNeeds rfl rfl ?_)
    refine gb1_ne_t (by decide) ?_
    (repeat refine gp_gc [] od_Gp_tellNeeds rfl rfl ?_)
    refine gs_put (gv_mark hi) rfl rfl ?_
    rw [gv_mark_set hi (by decide)]
    (repeat refine gp_gc [] od_Gp_tellNeeds rfl rfl ?_)
    exact And.intro (Or.inr rfl) (h1 a b)
  · (repeat refine gp_gc [] od_Gp_tellNeeds rfl rfl ?_)
    refine gb1_ne_f rfl ?_
    (repeat refine gp_gc [] od_Gp_tellNeeds rfl rfl ?_)
    exact And.intro (Or.inl rfl) (h0 c)
set_option maxRecDepth 100000 in
theorem sp_Gp_tellKnows {v : Int32} (hi : i < 16) (h1 : 0 ≤ v → v ≤ 255 → K (some (.int 1)) (gv (gw w (5 + i) 6 v) u q)) (h0 : ¬ (0 ≤ v ∧ v ≤ 255) → K (some (.int 0)) (gv w u q)) : gp_Cal l G (d + 1) m_Gp_tellKnows [.ref (5 + i), .int v] (gv w u q) K := by
  refine gp_enter od_Gp_tellKnows rfl ?_
  (repeat refine gp_gc [] od_Gp_tellKnows rfl rfl ?_)
  refine sp_Gp_within (d := d) (fun a b => ?_) (fun c => ?_)
  · (repeat refine gp_gc [] od_Gp_tellKnows rfl rfl ?_)
    refine gb1_ne_t (by decide) ?_
    (repeat refine gp_gc [] od_Gp_tellKnows rfl rfl ?_)
    refine gs_put (gv_mark hi) rfl rfl ?_
    rw [gv_mark_set hi (by decide)]
    (repeat refine gp_gc [] od_Gp_tellKnows rfl rfl ?_)
    exact And.intro (Or.inr rfl) (h1 a b)
  · (repeat refine gp_gc [] od_Gp_tellKnows rfl rfl ?_)
    refine gb1_ne_f rfl ?_
    (repeat refine gp_gc [] od_Gp_tellKnows rfl rfl ?_)
    exact And.intro (Or.inl rfl) (h0 c)
abbrev gc_oth (v th : Int32) : Prop := v = -1 ∨ ((0 ≤ v ∧ v ≤ 15) ∧ ¬ v = th)
set_option maxRecDepth 100000 in
theorem sp_Gp_canBeOther {v : Int32} (hi : i < 16) (h1 : gc_oth v (w (5 + i) 1) → K (some (.int 1)) (gv w u q)) (h0 : ¬ gc_oth v (w (5 + i) 1) → K (some (.int 0)) (gv w u q)) : gp_Cal l G (d + 1) m_Gp_canBeOther [.ref (5 + i), .int v] (gv w u q) K := by
  refine gp_enter od_Gp_canBeOther rfl ?_
  (repeat refine gp_gc [] od_Gp_canBeOther rfl rfl ?_)
  by_cases c : v = -1
  · refine gb_eq_t c ?_
    (repeat refine gp_gc [] od_Gp_canBeOther rfl rfl ?_)
    exact And.intro (Or.inr rfl) (h1 (Or.inl c))
  refine gb_eq_f c ?_
  (repeat refine gp_gc [] od_Gp_canBeOther rfl rfl ?_)
  refine sp_Gp_within (d := d) (fun a b => ?_) (fun n => ?_)
  · (repeat refine gp_gc [] od_Gp_canBeOther rfl rfl ?_)
    refine gb1_eq_f (by decide) ?_
    (repeat refine gp_gc [] od_Gp_canBeOther rfl rfl ?_)
    refine gs_get (gv_mark hi) rfl rfl ?_
    (repeat refine gp_gc [] od_Gp_canBeOther rfl rfl ?_)
    by_cases e : v = w (5 + i) 1
    · refine gb_eq_t e ?_
      (repeat refine gp_gc [] od_Gp_canBeOther rfl rfl ?_)
      exact And.intro (Or.inl rfl) (h0 (fun z => z.elim c (fun y => y.2 e)))
    · refine gb_eq_f e ?_
      (repeat refine gp_gc [] od_Gp_canBeOther rfl rfl ?_)
      exact And.intro (Or.inr rfl) (h1 (Or.inr ⟨⟨a, b⟩, e⟩))
  · (repeat refine gp_gc [] od_Gp_canBeOther rfl rfl ?_)
    refine gb1_eq_t rfl ?_
    (repeat refine gp_gc [] od_Gp_canBeOther rfl rfl ?_)
    exact And.intro (Or.inl rfl) (h0 (fun z => z.elim c (fun y => n y.1)))
set_option maxRecDepth 100000 in
theorem sp_Gp_tellFirst {v : Int32} (hi : i < 16) (h1 : gc_oth v (w (5 + i) 1) → ¬ (v = -1 ∧ ¬ w (5 + i) 8 = -1) → K (some (.int 1)) (gv (gw w (5 + i) 7 v) u q)) (h0 : ¬ (gc_oth v (w (5 + i) 1) ∧ ¬ (v = -1 ∧ ¬ w (5 + i) 8 = -1)) → K (some (.int 0)) (gv w u q)) : gp_Cal l G (d + 2) m_Gp_tellFirst [.ref (5 + i), .int v] (gv w u q) K := by
  refine gp_enter od_Gp_tellFirst rfl ?_
  have k0 : ¬ (v = -1 ∧ ¬ w (5 + i) 8 = -1) → gp_Go l G (d + 2) m_Gp_tellFirst K 19 [some (.ref (5 + i)), some (.int v), some (.int 0)] [] (gv w u q) 0 0 := by
    intro c
    refine gp_go od_Gp_tellFirst rfl ?_
    (repeat refine gp_gc [19] od_Gp_tellFirst rfl rfl ?_)
    refine gb1_ne_f rfl ?_
    (repeat refine gp_gc [19] od_Gp_tellFirst rfl rfl ?_)
    refine sp_Gp_canBeOther (d := d) hi (fun e => ?_) (fun e => ?_)
    · (repeat refine gp_gc [19] od_Gp_tellFirst rfl rfl ?_)
      refine gb1_ne_t (by decide) ?_
      (repeat refine gp_gc [19] od_Gp_tellFirst rfl rfl ?_)
      refine gs_put (gv_mark hi) rfl rfl ?_
      rw [gv_mark_set hi (by decide)]
      (repeat refine gp_gc [19] od_Gp_tellFirst rfl rfl ?_)
      exact And.intro (Or.inr rfl) (h1 e c)
    · (repeat refine gp_gc [19] od_Gp_tellFirst rfl rfl ?_)
      refine gb1_ne_f rfl ?_
      (repeat refine gp_gc [19] od_Gp_tellFirst rfl rfl ?_)
      exact And.intro (Or.inl rfl) (h0 (fun z => e z.1))
  (repeat refine gp_gc [19] od_Gp_tellFirst rfl rfl ?_)
  by_cases c1 : v = -1
  · refine gb_ne_f c1 ?_
    (repeat refine gp_gc [19] od_Gp_tellFirst rfl rfl ?_)
    refine gs_get (gv_mark hi) rfl rfl ?_
    (repeat refine gp_gc [19] od_Gp_tellFirst rfl rfl ?_)
    by_cases c2 : w (5 + i) 8 = -1
    · refine gb_eq_t c2 ?_
      (repeat refine gp_gc [19] od_Gp_tellFirst rfl rfl ?_)
      exact k0 (fun z => z.2 c2)
    · refine gb_eq_f c2 ?_
      (repeat refine gp_gc [19] od_Gp_tellFirst rfl rfl ?_)
      refine gp_go od_Gp_tellFirst rfl ?_
      (repeat refine gp_gc [19] od_Gp_tellFirst rfl rfl ?_)
      refine gb1_ne_t (by decide) ?_
      (repeat refine gp_gc [19] od_Gp_tellFirst rfl rfl ?_)
      exact And.intro (Or.inl rfl) (h0 (fun z => z.2 ⟨c1, c2⟩))
  · refine gb_ne_t c1 ?_
    (repeat refine gp_gc [19] od_Gp_tellFirst rfl rfl ?_)
    exact k0 (fun z => c1 z.1)
set_option maxRecDepth 100000 in
theorem sp_Gp_tellSecond {v : Int32} (hi : i < 16) (h1 : gc_oth v (w (5 + i) 1) → ¬ (¬ v = -1 ∧ w (5 + i) 7 = -1) → K (some (.int 1)) (gv (gw w (5 + i) 8 v) u q)) (h0 : ¬ (gc_oth v (w (5 + i) 1) ∧ ¬ (¬ v = -1 ∧ w (5 + i) 7 = -1)) → K (some (.int 0)) (gv w u q)) : gp_Cal l G (d + 2) m_Gp_tellSecond [.ref (5 + i), .int v] (gv w u q) K := by
  refine gp_enter od_Gp_tellSecond rfl ?_
  have k0 : ¬ (¬ v = -1 ∧ w (5 + i) 7 = -1) → gp_Go l G (d + 2) m_Gp_tellSecond K 19 [some (.ref (5 + i)), some (.int v), some (.int 0)] [] (gv w u q) 0 0 := by
    intro c
    refine gp_go od_Gp_tellSecond rfl ?_
    (repeat refine gp_gc [19] od_Gp_tellSecond rfl rfl ?_)
    refine gb1_ne_f rfl ?_
    (repeat refine gp_gc [19] od_Gp_tellSecond rfl rfl ?_)
    refine sp_Gp_canBeOther (d := d) hi (fun e => ?_) (fun e => ?_)
    · (repeat refine gp_gc [19] od_Gp_tellSecond rfl rfl ?_)
      refine gb1_ne_t (by decide) ?_
      (repeat refine gp_gc [19] od_Gp_tellSecond rfl rfl ?_)
      refine gs_put (gv_mark hi) rfl rfl ?_
      rw [gv_mark_set hi (by decide)]
      (repeat refine gp_gc [19] od_Gp_tellSecond rfl rfl ?_)
      exact And.intro (Or.inr rfl) (h1 e c)
    · (repeat refine gp_gc [19] od_Gp_tellSecond rfl rfl ?_)
      refine gb1_ne_f rfl ?_
      (repeat refine gp_gc [19] od_Gp_tellSecond rfl rfl ?_)
      exact And.intro (Or.inl rfl) (h0 (fun z => e z.1))
  (repeat refine gp_gc [19] od_Gp_tellSecond rfl rfl ?_)
  by_cases c1 : v = -1
  · refine gb_eq_t c1 ?_
    (repeat refine gp_gc [19] od_Gp_tellSecond rfl rfl ?_)
    exact k0 (fun z => z.1 c1)
  · refine gb_eq_f c1 ?_
    (repeat refine gp_gc [19] od_Gp_tellSecond rfl rfl ?_)
    refine gs_get (gv_mark hi) rfl rfl ?_
    (repeat refine gp_gc [19] od_Gp_tellSecond rfl rfl ?_)
    by_cases c2 : w (5 + i) 7 = -1
    · refine gb_ne_f c2 ?_
      (repeat refine gp_gc [19] od_Gp_tellSecond rfl rfl ?_)
      refine gp_go od_Gp_tellSecond rfl ?_
      (repeat refine gp_gc [19] od_Gp_tellSecond rfl rfl ?_)
      refine gb1_ne_t (by decide) ?_
      (repeat refine gp_gc [19] od_Gp_tellSecond rfl rfl ?_)
      exact And.intro (Or.inl rfl) (h0 (fun z => z.2 ⟨c1, c2⟩))
    · refine gb_ne_t c2 ?_
      (repeat refine gp_gc [19] od_Gp_tellSecond rfl rfl ?_)
      exact k0 (fun z => c2 z.2)
end
theorem gc_has {n : Nat} {m : Int32} (en : w 1 3 = nI n) (hn : n ≤ 16) (h0 : 0 ≤ m) (h1 : m < w 1 3) : ∃ i, i < n ∧ m = nI i := by
  rw [en] at h1
  obtain ⟨j, hj, e⟩ := nI_of (Int32.not_lt.mpr h0)
  subst e
  exact ⟨j, (nI_ltI hj (by omega)).mp h1, rfl⟩
set_option maxRecDepth 100000 in
theorem sp_Gp_tell {m what v : Int32} {n : Nat} (en : w 1 3 = nI n) (hn : n ≤ 16) (h0 : ¬ (∃ i, i < n ∧ m = nI i ∧ ((what = 0 ∧ 0 ≤ v ∧ v ≤ 1 <<< (m &&& 31) - 1) ∨ (what = 1 ∧ 0 ≤ v ∧ v ≤ 255) ∨ (what = 2 ∧ gc_oth v (w (5 + i) 1) ∧ ¬ (v = -1 ∧ ¬ w (5 + i) 8 = -1)) ∨ (what = 3 ∧ gc_oth v (w (5 + i) 1) ∧ ¬ (¬ v = -1 ∧ w (5 + i) 7 = -1)))) → K (some (.int 0)) (gv w u q)) (hA : ∀ i, i < n → m = nI i → what = 0 → 0 ≤ v → v ≤ 1 <<< (m &&& 31) - 1 → K (some (.int 1)) (gv (gw w (5 + i) 5 v) u q)) (hB : ∀ i, i < n → m = nI i → what = 1 → 0 ≤ v → v ≤ 255 → K (some (.int 1)) (gv (gw w (5 + i) 6 v) u q)) (hC : ∀ i, i < n → m = nI i → what = 2 → gc_oth v (w (5 + i) 1) → ¬ (v = -1 ∧ ¬ w (5 + i) 8 = -1) → K (some (.int 1)) (gv (gw w (5 + i) 7 v) u q)) (hD : ∀ i, i < n → m = nI i → what = 3 → gc_oth v (w (5 + i) 1) → ¬ (¬ v = -1 ∧ w (5 + i) 7 = -1) → K (some (.int 1)) (gv (gw w (5 + i) 8 v) u q)) : gp_Cal l G (d + 3) m_Gp_tell [.ref 0, .int m, .int what, .int v] (gv w u q) K := by
  refine gp_enter od_Gp_tell rfl ?_
  (repeat refine gp_gc [] od_Gp_tell rfl rfl ?_)
  refine sp_Pl_has (d := d + 2) (fun a b => ?_) (fun c => ?_)
  rotate_left
  · (repeat refine gp_gc [] od_Gp_tell rfl rfl ?_)
    refine gb1_ne_f rfl ?_
    (repeat refine gp_gc [] od_Gp_tell rfl rfl ?_)
    exact And.intro (Or.inl rfl) (h0 (fun ⟨i, hi, e, _⟩ => c ⟨by rw [e]; exact nI_pos' (by omega), by rw [e, en]; exact nI_lt hi (by omega)⟩))
  obtain ⟨i, hi, e⟩ := gc_has en hn a b
  subst e
  have i16 : i < 16 := by omega
  have ci : (nI i).toNatClampNeg = i := nI_clamp (by omega)
  have inj : ∀ i', i' < n → nI i = nI i' → i' = i := fun i' h1 h2 => ((nI_eq (by omega) (by omega)).mp h2).symm
  (repeat refine gp_gc [] od_Gp_tell rfl rfl ?_)
  refine gb1_ne_t (by decide) ?_
  (repeat refine gp_gc [] od_Gp_tell rfl rfl ?_)
  refine And.intro (vp_in_nI (n := i) (by omega) (by decide)) ⟨_, rfl, ?_⟩
  rw [ci]
  (repeat refine gp_gc [] od_Gp_tell rfl rfl ?_)
  refine And.intro (fun c => ?_) (And.intro (by decide) (And.intro (fun c => ?_) (And.intro (fun c => ?_) (And.intro (fun c => ?_) (And.intro (fun c => ?_) trivial)))))
  · (repeat refine gp_gc [] od_Gp_tell rfl rfl ?_)
    refine And.intro (Or.inl rfl) (h0 ?_)
    rintro ⟨i', hi', e', z | z | z | z⟩
    all_goals
      rw [z.1] at c
      exact absurd c (by decide)
  · have ew : what = 0 := Int32.toInt_inj.mp c
    (repeat refine gp_gc [] od_Gp_tell rfl rfl ?_)
    refine sp_Gp_tellNeeds (d := d + 1) i16 (fun x y => ?_) (fun x => ?_)
    · (repeat refine gp_gc [] od_Gp_tell rfl rfl ?_)
      exact And.intro (Or.inr rfl) (hA i hi rfl ew x y)
    · (repeat refine gp_gc [] od_Gp_tell rfl rfl ?_)
      refine And.intro (Or.inl rfl) (h0 ?_)
      rintro ⟨i', hi', e', z | z | z | z⟩
      · exact x z.2
      all_goals
        rw [z.1] at ew
        exact absurd ew (by decide)
  · have ew : what = 1 := Int32.toInt_inj.mp c
    (repeat refine gp_gc [] od_Gp_tell rfl rfl ?_)
    refine sp_Gp_tellKnows (d := d + 1) i16 (fun x y => ?_) (fun x => ?_)
    · (repeat refine gp_gc [] od_Gp_tell rfl rfl ?_)
      exact And.intro (Or.inr rfl) (hB i hi rfl ew x y)
    · (repeat refine gp_gc [] od_Gp_tell rfl rfl ?_)
      refine And.intro (Or.inl rfl) (h0 ?_)
      rintro ⟨i', hi', e', z | z | z | z⟩
      · rw [z.1] at ew
        exact absurd ew (by decide)
      · exact x z.2
      all_goals
        rw [z.1] at ew
        exact absurd ew (by decide)
  · have ew : what = 2 := Int32.toInt_inj.mp c
    (repeat refine gp_gc [] od_Gp_tell rfl rfl ?_)
    refine sp_Gp_tellFirst (d := d) i16 (fun x y => ?_) (fun x => ?_)
    · (repeat refine gp_gc [] od_Gp_tell rfl rfl ?_)
      exact And.intro (Or.inr rfl) (hC i hi rfl ew x y)
    · (repeat refine gp_gc [] od_Gp_tell rfl rfl ?_)
      refine And.intro (Or.inl rfl) (h0 ?_)
      rintro ⟨i', hi', e', z | z | z | z⟩
      · rw [z.1] at ew
        exact absurd ew (by decide)
      · rw [z.1] at ew
        exact absurd ew (by decide)
      · rw [inj i' hi' e'] at z
        exact x z.2
      · rw [z.1] at ew
        exact absurd ew (by decide)
  · have ew : what = 3 := Int32.toInt_inj.mp c
    (repeat refine gp_gc [] od_Gp_tell rfl rfl ?_)
    refine sp_Gp_tellSecond (d := d) i16 (fun x y => ?_) (fun x => ?_)
    · (repeat refine gp_gc [] od_Gp_tell rfl rfl ?_)
      exact And.intro (Or.inr rfl) (hD i hi rfl ew x y)
    · (repeat refine gp_gc [] od_Gp_tell rfl rfl ?_)
      refine And.intro (Or.inl rfl) (h0 ?_)
      rintro ⟨i', hi', e', z | z | z | z⟩
      · rw [z.1] at ew
        exact absurd ew (by decide)
      · rw [z.1] at ew
        exact absurd ew (by decide)
      · rw [z.1] at ew
        exact absurd ew (by decide)
      · rw [inj i' hi' e'] at z
        exact x z.2
def gc_left (w : Nat → Nat → Int32) (i : Nat) (y : Int32) : Int32 := w (5 + i) 3 - y * w 3 (w (5 + i) 0).toNatClampNeg
set_option maxRecDepth 100000 in
theorem sp_Pl_leftOf {i : Nat} (hi : i < 16) (ik : vp_in (w (5 + i) 0) 7) (h : K (some (.int (gc_left w i (w 1 4)))) (gv w u q)) : gp_Cal l G (d + 0) m_Pl_leftOf [.ref 1, .ref (5 + i)] (gv w u q) K := by
  refine gp_enter od_Pl_leftOf rfl ?_
  (repeat refine gp_gc [] od_Pl_leftOf rfl rfl ?_)
  refine gs_get (gv_mark hi) rfl rfl ?_
  (repeat refine gp_gc [] od_Pl_leftOf rfl rfl ?_)
  refine gs_get (gv_mark hi) rfl rfl ?_
  (repeat refine gp_gc [] od_Pl_leftOf rfl rfl ?_)
  refine And.intro ik ?_
  (repeat refine gp_gc [] od_Pl_leftOf rfl rfl ?_)
  exact h
def gc_wear (w : Nat → Nat → Int32) (i : Nat) : Int32 := if gc_left w i (w 1 4) ≤ 0 then 2 else if gc_left w i (w 1 4) < w (5 + i) 3 / 2 then 1 else 0
set_option maxRecDepth 100000 in
theorem sp_Pl_wearOf {i : Nat} (hi : i < 16) (ik : vp_in (w (5 + i) 0) 7) (h : K (some (.int (gc_wear w i))) (gv w u q)) : gp_Cal l G (d + 1) m_Pl_wearOf [.ref 1, .ref (5 + i)] (gv w u q) K := by
  refine gp_enter od_Pl_wearOf rfl ?_
  unfold gc_wear at h
  (repeat refine gp_gc [] od_Pl_wearOf rfl rfl ?_)
  refine sp_Pl_leftOf (d := d) hi ik ?_
  (repeat refine gp_gc [] od_Pl_wearOf rfl rfl ?_)
  by_cases c : gc_left w i (w 1 4) ≤ 0
  · rw [if_pos c] at h
    refine gb_gt_f' c ?_
    (repeat refine gp_gc [] od_Pl_wearOf rfl rfl ?_)
    exact h
  rw [if_neg c] at h
  refine gb_gt_t' c ?_
  (repeat refine gp_gc [] od_Pl_wearOf rfl rfl ?_)
  refine gs_get (gv_mark hi) rfl rfl ?_
  (repeat refine gp_gc [] od_Pl_wearOf rfl rfl ?_)
  refine And.intro (by decide) ?_
  (repeat refine gp_gc [] od_Pl_wearOf rfl rfl ?_)
  by_cases c2 : gc_left w i (w 1 4) < w (5 + i) 3 / 2
  · rw [if_pos c2] at h
    refine gb_ge_f' c2 ?_
    (repeat refine gp_gc [] od_Pl_wearOf rfl rfl ?_)
    exact h
  · rw [if_neg c2] at h
    refine gb_ge_t' c2 ?_
    (repeat refine gp_gc [] od_Pl_wearOf rfl rfl ?_)
    exact h
set_option maxRecDepth 100000 in
theorem sp_Gp_end {v : Int32} (h1 : 0 ≤ v ∧ v ≤ w 55 4 → K (some (.int 1)) (gv (gw w 55 4 v) u q)) (h0 : ¬ (0 ≤ v ∧ v ≤ w 55 4) → K (some (.int 0)) (gv w u q)) : gp_Cal l G (d + 1) m_Gp_end [.ref 0, .int v] (gv w u q) K := by
  refine gp_enter od_Gp_end rfl ?_
  (repeat refine gp_gc [] od_Gp_end rfl rfl ?_)
  refine sp_Gp_within (d := d) (fun a b => ?_) (fun c => ?_)
  · (repeat refine gp_gc [] od_Gp_end rfl rfl ?_)
    refine gb1_ne_t (by decide) ?_
    (repeat refine gp_gc [] od_Gp_end rfl rfl ?_)
    exact And.intro (Or.inr rfl) (h1 ⟨a, b⟩)
  · (repeat refine gp_gc [] od_Gp_end rfl rfl ?_)
    refine gb1_ne_f rfl ?_
    (repeat refine gp_gc [] od_Gp_end rfl rfl ?_)
    exact And.intro (Or.inl rfl) (h0 c)
set_option maxRecDepth 100000 in
theorem sp_Gp_fault {what : Int32} (h : K (some (.int (if what = 0 then w 55 7 else if what = 1 then w 55 8 else -1))) (gv w u q)) : gp_Cal l G (d + 0) m_Gp_fault [.ref 0, .int what] (gv w u q) K := by
  refine gp_enter od_Gp_fault rfl ?_
  (repeat refine gp_gc [] od_Gp_fault rfl rfl ?_)
  by_cases c : what = 0
  · rw [if_pos c] at h
    refine gb1_ne_f c ?_
    (repeat refine gp_gc [] od_Gp_fault rfl rfl ?_)
    exact h
  rw [if_neg c] at h
  refine gb1_ne_t c ?_
  (repeat refine gp_gc [] od_Gp_fault rfl rfl ?_)
  by_cases c2 : what = 1
  · rw [if_pos c2] at h
    refine gb_ne_f c2 ?_
    (repeat refine gp_gc [] od_Gp_fault rfl rfl ?_)
    exact h
  · rw [if_neg c2] at h
    refine gb_ne_t c2 ?_
    (repeat refine gp_gc [] od_Gp_fault rfl rfl ?_)
    exact h
set_option maxRecDepth 100000 in
theorem sp_Gp_look {what : Int32} (h : K (some (.int (gf_look w what (w 1 3) (w 0 12) (w 76 1) (w 83 7) (w 91 3) (w 1 4)))) (gv w u q)) : gp_Cal l G (d + 0) m_Gp_look [.ref 0, .int what] (gv w u q) K := by
  refine gp_enter od_Gp_look rfl ?_
  unfold gf_look at h
  (repeat refine gp_gc [] od_Gp_look rfl rfl ?_)
  refine And.intro (fun c => ?_) (And.intro (by decide) (And.intro (fun c => ?_) (And.intro (fun c => ?_) (And.intro (fun c => ?_) (And.intro (fun c => ?_) (And.intro (fun c => ?_) (And.intro (fun c => ?_) trivial)))))))
  · have ne : ∀ k : Int32, 0 ≤ k.toInt → k.toInt ≤ 5 → ¬ what = k := by
      intro k h1 h2 z
      rw [z] at c
      omega
    rw [if_neg (ne 0 (by decide) (by decide)), if_neg (ne 1 (by decide) (by decide)), if_neg (ne 2 (by decide) (by decide)), if_neg (ne 3 (by decide) (by decide)), if_neg (ne 4 (by decide) (by decide)), if_neg (ne 5 (by decide) (by decide))] at h
    (repeat refine gp_gc [] od_Gp_look rfl rfl ?_)
    exact h
  all_goals
    first
    | (have ew : what = 0 := Int32.toInt_inj.mp c)
    | (have ew : what = 1 := Int32.toInt_inj.mp c)
    | (have ew : what = 2 := Int32.toInt_inj.mp c)
    | (have ew : what = 3 := Int32.toInt_inj.mp c)
    | (have ew : what = 4 := Int32.toInt_inj.mp c)
    | (have ew : what = 5 := Int32.toInt_inj.mp c)
    subst ew
    (repeat refine gp_gc [] od_Gp_look rfl rfl ?_)
    exact h

end
