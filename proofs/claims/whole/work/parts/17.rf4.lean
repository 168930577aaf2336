section
variable {l : Launch} {G : gp_G} {d : Nat} {w : Nat → Nat → Int32} {u : Int64 × (Nat → Int64)} {q : Nat → Nat} {K : Option Value → gp_H → Prop}
/-! ===== the reference's methods: alone, worth, best, deeper ===== -/
theorem gf_mk {w : Nat → Nat → Int32} {n : Nat} {m : Int32} (ok : gf_ok w n) (h0 : 0 ≤ m) (h1 : m ≤ w 95 0 - 1) : ∃ i, i < n ∧ m = nI i := by
  obtain ⟨e, hn, -⟩ := ok
  rw [e] at h1
  obtain ⟨j, hj, rfl⟩ := nI_of (Int32.not_lt.mpr h0)
  rcases Nat.eq_zero_or_pos n with h | h
  · subst h
    have := Int32.le_iff_toInt_le.mp h1
    rw [nI_toInt hj] at this
    have e2 : (nI 0 - 1).toInt = -1 := by decide
    omega
  · have e2 : nI n - 1 = nI (n - 1) := by
      have := nI_pred (n - 1)
      rwa [Nat.sub_add_cancel h] at this
    rw [e2, nI_leI hj (by omega)] at h1
    exact ⟨j, by omega, rfl⟩
abbrev gf_abl (w : Nat → Nat → Int32) (k y : Int32) (i : Nat) : Prop := (w 100 i &&& (w 107 k.toNatClampNeg ^^^ -1) = 0 ∧ 0 < gf_left w (nI i) y) ∧ w 102 i &&& (w 108 k.toNatClampNeg ^^^ -1) = 0
abbrev gf_alC (w : Nat → Nat → Int32) (k set y : Int32) (i : Nat) : Prop := (set >>> (nI i &&& 31)) &&& 1 = 1 → gf_abl w k y i
set_option maxRecDepth 100000 in
theorem sp_Rf_isAlone {k m y : Int32} {n i : Nat} (ok : gf_ok w n) (i0 : vp_in k 7) (em : m = nI i) (hi : i < n) (h1 : (∀ j, j ≤ i → gf_alC w k (gf_an (w 101) i (1 <<< (m &&& 31))) y j) → K (some (.int 1)) (gv w u q)) (h0 : ¬ (∀ j, j ≤ i → gf_alC w k (gf_an (w 101) i (1 <<< (m &&& 31))) y j) → K (some (.int 0)) (gv w u q)) : gp_Cal l G (d + 3) m_Rf_isAlone [.ref 95, .int k, .int m, .int y] (gv w u q) K := by
  refine gp_enter od_Rf_isAlone rfl ?_
  have hn := ok.2.1
  (repeat refine gp_gc [10] od_Rf_isAlone rfl rfl ?_)
  refine sp_Rf_allNeeds (d := d + 2) em (by omega) ?_
  generalize gf_an (w 101) i (1 <<< (m &&& 31)) = set at h1 h0 ⊢
  (repeat refine gp_gc [10] od_Rf_isAlone rfl rfl ?_)
  have key : ∀ (r j : Nat) (x : Int32), j + r = i + 1 → x = nI j → (∀ t, t < j → gf_alC w k set y t) → gp_Go l G (d + 3) m_Rf_isAlone K 10 [some (.ref 95), some (.int k), some (.int m), some (.int y), some (.int set), some (.int x)] [] (gv w u q) 0 0 := by
    intro r
    induction r with
    | zero =>
      intro j x hj ex hall
      subst ex
      refine gp_go od_Rf_isAlone rfl ?_
      (repeat refine gp_gc [10] od_Rf_isAlone rfl rfl ?_)
      refine gb_gt_t (by rw [em]; exact nI_lt (by omega) (by omega)) ?_
      (repeat refine gp_gc [10] od_Rf_isAlone rfl rfl ?_)
      exact And.intro (Or.inr rfl) (h1 (fun t ht => hall t (by omega)))
    | succ r ih =>
      intro j x hj ex hall
      subst ex
      have hjn : j < n := by omega
      have i1 := gf_i1 ok hjn
      have ec := gf_c ok.2.1 hjn
      have i2 := ok.2.2 j hjn
      refine gp_go od_Rf_isAlone rfl ?_
      (repeat refine gp_gc [10] od_Rf_isAlone rfl rfl ?_)
      refine gb_gt_f (by rw [em]; exact nI_nlt (by omega) (by omega)) ?_
      (repeat refine gp_gc [10] od_Rf_isAlone rfl rfl ?_)
      by_cases b1 : (set >>> (nI j &&& 31)) &&& 1 = 1
      rotate_left
      · refine gb_ne_t b1 ?_
        (repeat refine gp_gc [10] od_Rf_isAlone rfl rfl ?_)
        exact ih (j + 1) _ (by omega) (gp_inc rfl) (lt_s hall (fun z => absurd z b1))
      refine gb_ne_f b1 ?_
      (repeat refine gp_gc [10] od_Rf_isAlone rfl rfl ?_)
      refine sp_Rf_canSee (d := d) i0 i1 (by rw [ec]; exact i2) (fun b2 b3 => ?_) (fun b2 => ?_)
      rotate_left
      · rw [ec] at b2
        (repeat refine gp_gc [10] od_Rf_isAlone rfl rfl ?_)
        refine gb1_eq_t rfl ?_
        (repeat refine gp_gc [10] od_Rf_isAlone rfl rfl ?_)
        exact And.intro (Or.inl rfl) (h0 (fun z => b2 (z j (by omega) b1).1))
      rw [ec] at b2
      (repeat refine gp_gc [10] od_Rf_isAlone rfl rfl ?_)
      refine gb1_eq_f (by decide) ?_
      (repeat refine gp_gc [10] od_Rf_isAlone rfl rfl ?_)
      refine And.intro i1 ?_
      (repeat refine gp_gc [10] od_Rf_isAlone rfl rfl ?_)
      refine And.intro i0 ?_
      (repeat refine gp_gc [10] od_Rf_isAlone rfl rfl ?_)
      rw [ec]
      by_cases b5 : w 102 j &&& (w 108 k.toNatClampNeg ^^^ -1) = 0
      rotate_left
      · refine gb1_eq_f b5 ?_
        (repeat refine gp_gc [10] od_Rf_isAlone rfl rfl ?_)
        exact And.intro (Or.inl rfl) (h0 (fun z => b5 (z j (by omega) b1).2))
      refine gb1_eq_t b5 ?_
      (repeat refine gp_gc [10] od_Rf_isAlone rfl rfl ?_)
      exact ih (j + 1) _ (by omega) (gp_inc rfl) (lt_s hall (fun _ => ⟨⟨b2, b3⟩, b5⟩))
  exact key (i + 1) 0 _ (by omega) rfl (fun t ht => absurd ht (by omega))
set_option maxRecDepth 100000 in
theorem sp_Rf_alone {k m : Int32} {n : Nat} (ok : gf_ok w n) (h1 : ∀ i, i < n → m = nI i → 0 ≤ k ∧ k ≤ 5 → (∀ j, j ≤ i → gf_alC w k (gf_an (w 101) i (1 <<< (m &&& 31))) (w 95 1) j) → K (some (.int 1)) (gv w u q)) (h2 : ∀ i, i < n → m = nI i → 0 ≤ k ∧ k ≤ 5 → ¬ (∀ j, j ≤ i → gf_alC w k (gf_an (w 101) i (1 <<< (m &&& 31))) (w 95 1) j) → K (some (.int 0)) (gv w u q)) (h0 : ¬ ((0 ≤ k ∧ k ≤ 5) ∧ 0 ≤ m ∧ m ≤ w 95 0 - 1) → K (some (.int (-1))) (gv w u q)) : gp_Cal l G (d + 4) m_Rf_alone [.ref 95, .int k, .int m] (gv w u q) K := by
  refine gp_enter od_Rf_alone rfl ?_
  (repeat refine gp_gc [] od_Rf_alone rfl rfl ?_)
  refine sp_Rf_isMind (fun a1 b1 => ?_) (fun n1 => ?_)
  rotate_left
  · repeat refine gp_gc [] od_Rf_alone rfl rfl ?_
    first | refine And.intro (fun _ => ?_) (fun c => absurd rfl c) | refine And.intro (fun c => absurd rfl c) (fun _ => ?_)
    repeat refine gp_gc [] od_Rf_alone rfl rfl ?_
    exact h0 (fun z => n1 z.1)
  repeat refine gp_gc [] od_Rf_alone rfl rfl ?_
  first | refine And.intro (fun c => absurd c (by decide)) (fun _ => ?_) | refine And.intro (fun _ => ?_) (fun c => absurd c (by decide))
  repeat refine gp_gc [] od_Rf_alone rfl rfl ?_
  refine sp_Rf_isMark (fun a2 b2 => ?_) (fun n2 => ?_)
  rotate_left
  · repeat refine gp_gc [] od_Rf_alone rfl rfl ?_
    first | refine And.intro (fun _ => ?_) (fun c => absurd rfl c) | refine And.intro (fun c => absurd rfl c) (fun _ => ?_)
    repeat refine gp_gc [] od_Rf_alone rfl rfl ?_
    exact h0 (fun z => n2 z.2)
  repeat refine gp_gc [] od_Rf_alone rfl rfl ?_
  first | refine And.intro (fun c => absurd c (by decide)) (fun _ => ?_) | refine And.intro (fun _ => ?_) (fun c => absurd c (by decide))
  repeat refine gp_gc [] od_Rf_alone rfl rfl ?_
  obtain ⟨i, hi, em⟩ := gf_mk ok a2 b2
  refine sp_Rf_isAlone (d := d) ok (gp_in57 a1 b1) em hi (fun z => ?_) (fun z => ?_)
  · (repeat refine gp_gc [] od_Rf_alone rfl rfl ?_)
    refine gb1_eq_f (by decide) ?_
    (repeat refine gp_gc [] od_Rf_alone rfl rfl ?_)
    exact h1 i hi em ⟨a1, b1⟩ z
  · (repeat refine gp_gc [] od_Rf_alone rfl rfl ?_)
    refine gb1_eq_t rfl ?_
    (repeat refine gp_gc [] od_Rf_alone rfl rfl ?_)
    exact h2 i hi em ⟨a1, b1⟩ z
def gf_woS (w : Nat → Nat → Int32) (set minds worst y : Int32) (n k : Nat) (v : Int32) : Int32 := if (minds >>> (nI k &&& 31)) &&& 1 = 0 then v else if worst = 0 then v + gf_count (gf_told w (nI k) set y n) else if gf_count (gf_told w (nI k) set y n) < v then gf_count (gf_told w (nI k) set y n) else v
def gf_worth (w : Nat → Nat → Int32) (set minds worst y : Int32) (n : Nat) : Int32 := gp_it (gf_woS w set minds worst y n) 0 6 (if worst = 0 then 0 else 17)
set_option maxRecDepth 100000 in
theorem sp_Rf_worth {set minds worst : Int32} {n : Nat} (ok : gf_ok w n) (h : K (some (.int (gf_worth w set minds worst (w 95 1) n))) (gv w u q)) : gp_Cal l G (d + 4) m_Rf_worth [.ref 95, .int set, .int minds, .int worst] (gv w u q) K := by
  refine gp_enter od_Rf_worth rfl ?_
  unfold gf_worth at h
  have key : ∀ v0 : Int32, K (some (.int (gp_it (gf_woS w set minds worst (w 95 1) n) 0 6 v0))) (gv w u q) → gp_Go l G (d + 4) m_Rf_worth K 15 [some (.ref 95), some (.int set), some (.int minds), some (.int worst), some (.int v0), some (.int 0), none] [] (gv w u q) 0 0 := by
    intro v0 h
    refine gp_iter (P := fun j s => ∀ x, x = nI j → gp_Go l G (d + 4) m_Rf_worth K 15 [some (.ref 95), some (.int set), some (.int minds), some (.int worst), some (.int s), some (.int x), none] [] (gv w u q) 0 0) (gf_woS w set minds worst (w 95 1) n) 6 ?_ 6 0 v0 (by omega) ?_ 0 rfl
    · intro j s hj hp x ex
      subst ex
      have i0 : vp_in (nI j) 7 := vp_in_nI (by omega) (by decide)
      have hp := hp _ (gp_inc rfl)
      unfold gf_woS at hp
      refine gp_go od_Rf_worth rfl ?_
      (repeat refine gp_gc [15] od_Rf_worth rfl rfl ?_)
      refine gb_ge_f (nI_ge hj (by decide)) ?_
      (repeat refine gp_gc [15] od_Rf_worth rfl rfl ?_)
      by_cases b1 : (minds >>> (nI j &&& 31)) &&& 1 = 0
      · rw [if_pos b1] at hp
        refine gb1_ne_f b1 ?_
        (repeat refine gp_gc [15] od_Rf_worth rfl rfl ?_)
        exact hp
      rw [if_neg b1] at hp
      refine gb1_ne_t b1 ?_
      (repeat refine gp_gc [15] od_Rf_worth rfl rfl ?_)
      refine sp_Rf_toldBy (d := d) ok i0 ?_
      (repeat refine gp_gc [15] od_Rf_worth rfl rfl ?_)
      refine sp_Rf_count ?_
      (repeat refine gp_gc [15] od_Rf_worth rfl rfl ?_)
      by_cases b2 : worst = 0
      · rw [if_pos b2] at hp
        refine gb1_eq_t b2 ?_
        (repeat refine gp_gc [15] od_Rf_worth rfl rfl ?_)
        refine gp_drop 6 ?_
        exact hp
      rw [if_neg b2] at hp
      refine gb1_eq_f b2 ?_
      (repeat refine gp_gc [15] od_Rf_worth rfl rfl ?_)
      by_cases b3 : gf_count (gf_told w (nI j) set (w 95 1) n) < s
      · rw [if_pos b3] at hp
        refine gb_ge_f' b3 ?_
        (repeat refine gp_gc [15] od_Rf_worth rfl rfl ?_)
        refine gp_drop 6 ?_
        exact hp
      · rw [if_neg b3] at hp
        refine gb_ge_t' b3 ?_
        (repeat refine gp_gc [15] od_Rf_worth rfl rfl ?_)
        refine gp_drop 6 ?_
        exact hp
    · intro x ex
      subst ex
      refine gp_go od_Rf_worth rfl ?_
      (repeat refine gp_gc [15] od_Rf_worth rfl rfl ?_)
      refine gb_ge_t (Int32.le_refl _) ?_
      (repeat refine gp_gc [15] od_Rf_worth rfl rfl ?_)
      exact h
  (repeat refine gp_gc [15] od_Rf_worth rfl rfl ?_)
  by_cases b : worst = 0
  · rw [if_pos b] at h
    refine gb1_eq_t b ?_
    (repeat refine gp_gc [15] od_Rf_worth rfl rfl ?_)
    exact key _ h
  · rw [if_neg b] at h
    refine gb1_eq_f b ?_
    (repeat refine gp_gc [15] od_Rf_worth rfl rfl ?_)
    exact key _ h
def gf_beS (w : Nat → Nat → Int32) (budget minds worst y : Int32) (n s : Nat) (b : Int32 × Int32) : Int32 × Int32 :=
  if budget < gf_cost (w 98) (nI s) n then b else
  if gf_worth w (nI s) minds worst y n < b.2 ∨ (gf_worth w (nI s) minds worst y n = b.2 ∧ gf_cost (w 98) b.1 n ≤ gf_cost (w 98) (nI s) n) then b else (nI s, gf_worth w (nI s) minds worst y n)
def gf_best (w : Nat → Nat → Int32) (budget minds worst y : Int32) (n : Nat) : Int32 × Int32 := gp_it (gf_beS w budget minds worst y n) 1 (2 ^ (min n 12) - 1) (0, gf_worth w 0 minds worst y n)

end
