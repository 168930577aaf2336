section
variable {l : Launch} {G : gp_G} {d : Nat} {w : Nat → Nat → Int32} {u : Int64 × (Nat → Int64)} {q : Nat → Nat} {K : Option Value → gp_H → Prop}
/-! ===== the reference's methods: sets of marks ===== -/
/-- the marks are some n, and each has a kind -/
def gf_ok (w : Nat → Nat → Int32) (n : Nat) : Prop := w 95 0 = nI n ∧ n ≤ 16 ∧ ∀ i, i < n → vp_in (w 96 i) 7
theorem gf_i1 {w : Nat → Nat → Int32} {n i : Nat} (h : gf_ok w n) (hi : i < n) : vp_in (nI i) 16 := vp_in_nI (by have := h.2.1; omega) (by decide)
theorem gf_c {n i : Nat} (h : n ≤ 16) (hi : i < n) : (nI i).toNatClampNeg = i := nI_clamp (by omega)
abbrev gf_tC (w : Nat → Nat → Int32) (k set y : Int32) (i : Nat) (r : Int32) : Prop := ¬ (set >>> (nI i &&& 31)) &&& 1 = 0 ∧ (w 100 i &&& (w 107 k.toNatClampNeg ^^^ -1) = 0 ∧ 0 < gf_left w (nI i) y) ∧ w 101 i &&& (r ^^^ -1) = 0 ∧ w 102 i &&& (w 108 k.toNatClampNeg ^^^ -1) = 0
def gf_tS (w : Nat → Nat → Int32) (k set y : Int32) (i : Nat) (s : Int32 × Int32) : Int32 × Int32 := if gf_tC w k set y i s.1 then (s.1 ||| 1 <<< (nI i &&& 31), s.2 ||| 1 <<< (w 97 i &&& 31)) else s
theorem gf_tS_y {w : Nat → Nat → Int32} {k set y : Int32} {i : Nat} {s : Int32 × Int32} (h : gf_tC w k set y i s.1) : gf_tS w k set y i s = (s.1 ||| 1 <<< (nI i &&& 31), s.2 ||| 1 <<< (w 97 i &&& 31)) := if_pos h
theorem gf_tS_n {w : Nat → Nat → Int32} {k set y : Int32} {i : Nat} {s : Int32 × Int32} (h : ¬ gf_tC w k set y i s.1) : gf_tS w k set y i s = s := if_neg h
def gf_told (w : Nat → Nat → Int32) (k set y : Int32) (n : Nat) : Int32 := (gp_it (gf_tS w k set y) 0 n (0, 0)).2
set_option maxRecDepth 100000 in
theorem sp_Rf_toldBy {k set y : Int32} {n : Nat} (ok : gf_ok w n) (i0 : vp_in k 7) (h : K (some (.int (gf_told w k set y n))) (gv w u q)) : gp_Cal l G (d + 3) m_Rf_toldBy [.ref 95, .int k, .int set, .int y] (gv w u q) K := by
  refine gp_enter od_Rf_toldBy rfl ?_
  (repeat refine gp_gc [9] od_Rf_toldBy rfl rfl ?_)
  refine gp_iter (P := fun j s => ∀ x, x = nI j → gp_Go l G (d + 3) m_Rf_toldBy K 9 [some (.ref 95), some (.int k), some (.int set), some (.int y), some (.int s.1), some (.int s.2), some (.int x)] [] (gv w u q) 0 0) (gf_tS w k set y) n ?_ n 0 (0, 0) (by omega) ?_ 0 rfl
  · intro j s hj hp x ex
    subst ex
    have i1 := gf_i1 ok hj
    have ec := gf_c ok.2.1 hj
    have i2 := ok.2.2 j hj
    have hp := hp _ (gp_inc rfl)
    have c : ¬ w 95 0 ≤ nI j := by rw [ok.1]; exact nI_ge hj (by have := ok.2.1; omega)
    refine gp_go od_Rf_toldBy rfl ?_
    (repeat refine gp_gc [9] od_Rf_toldBy rfl rfl ?_)
    refine gb_ge_f c ?_
    (repeat refine gp_gc [9] od_Rf_toldBy rfl rfl ?_)
    by_cases b1 : (set >>> (nI j &&& 31)) &&& 1 = 0
    · rw [gf_tS_n (fun z => z.1 b1)] at hp
      refine gb1_eq_t b1 ?_
      (repeat refine gp_gc [9] od_Rf_toldBy rfl rfl ?_)
      exact hp
    refine gb1_eq_f b1 ?_
    (repeat refine gp_gc [9] od_Rf_toldBy rfl rfl ?_)
    refine sp_Rf_canSee (d := d) i0 i1 (by rw [ec]; exact i2) (fun b2 b3 => ?_) (fun b2 => ?_)
    rotate_left
    · rw [ec] at b2
      rw [gf_tS_n (fun z => b2 z.2.1)] at hp
      (repeat refine gp_gc [9] od_Rf_toldBy rfl rfl ?_)
      refine gb1_eq_t rfl ?_
      (repeat refine gp_gc [9] od_Rf_toldBy rfl rfl ?_)
      exact hp
    rw [ec] at b2
    (repeat refine gp_gc [9] od_Rf_toldBy rfl rfl ?_)
    refine gb1_eq_f (by decide) ?_
    (repeat refine gp_gc [9] od_Rf_toldBy rfl rfl ?_)
    refine And.intro i1 ?_
    (repeat refine gp_gc [9] od_Rf_toldBy rfl rfl ?_)
    rw [ec]
    by_cases b4 : w 101 j &&& (s.1 ^^^ -1) = 0
    rotate_left
    · rw [gf_tS_n (fun z => b4 z.2.2.1)] at hp
      refine gb1_ne_t b4 ?_
      (repeat refine gp_gc [9] od_Rf_toldBy rfl rfl ?_)
      exact hp
    refine gb1_ne_f b4 ?_
    (repeat refine gp_gc [9] od_Rf_toldBy rfl rfl ?_)
    refine And.intro i1 ?_
    (repeat refine gp_gc [9] od_Rf_toldBy rfl rfl ?_)
    refine And.intro i0 ?_
    (repeat refine gp_gc [9] od_Rf_toldBy rfl rfl ?_)
    rw [ec]
    by_cases b5 : w 102 j &&& (w 108 k.toNatClampNeg ^^^ -1) = 0
    rotate_left
    · rw [gf_tS_n (fun z => b5 z.2.2.2)] at hp
      refine gb1_eq_f b5 ?_
      (repeat refine gp_gc [9] od_Rf_toldBy rfl rfl ?_)
      exact hp
    refine gb1_eq_t b5 ?_
    rw [gf_tS_y ⟨b1, ⟨b2, b3⟩, b4, b5⟩] at hp
    (repeat refine gp_gc [9] od_Rf_toldBy rfl rfl ?_)
    refine And.intro i1 ?_
    (repeat refine gp_gc [9] od_Rf_toldBy rfl rfl ?_)
    rw [ec]
    exact hp
  · intro x ex
    subst ex
    refine gp_go od_Rf_toldBy rfl ?_
    (repeat refine gp_gc [9] od_Rf_toldBy rfl rfl ?_)
    refine gb_ge_t (by rw [ok.1]; exact Int32.le_refl _) ?_
    (repeat refine gp_gc [9] od_Rf_toldBy rfl rfl ?_)
    exact h
set_option maxRecDepth 100000 in
theorem sp_Rf_told {k set : Int32} {n : Nat} (ok : gf_ok w n) (h1 : 0 ≤ k ∧ k ≤ 5 → 0 ≤ set ∧ set ≤ 65535 → K (some (.int (gf_told w k set (w 95 1) n))) (gv w u q)) (h0 : ¬ ((0 ≤ k ∧ k ≤ 5) ∧ 0 ≤ set ∧ set ≤ 65535) → K (some (.int (-1))) (gv w u q)) : gp_Cal l G (d + 4) m_Rf_told [.ref 95, .int k, .int set] (gv w u q) K := by
  refine gp_enter od_Rf_told rfl ?_
  (repeat refine gp_gc [] od_Rf_told rfl rfl ?_)
  refine sp_Rf_isMind (fun a1 b1 => ?_) (fun n1 => ?_)
  rotate_left
  · repeat refine gp_gc [] od_Rf_told rfl rfl ?_
    first | refine And.intro (fun _ => ?_) (fun c => absurd rfl c) | refine And.intro (fun c => absurd rfl c) (fun _ => ?_)
    repeat refine gp_gc [] od_Rf_told rfl rfl ?_
    exact h0 (fun z => n1 z.1)
  repeat refine gp_gc [] od_Rf_told rfl rfl ?_
  first | refine And.intro (fun c => absurd c (by decide)) (fun _ => ?_) | refine And.intro (fun _ => ?_) (fun c => absurd c (by decide))
  repeat refine gp_gc [] od_Rf_told rfl rfl ?_
  refine sp_Rf_isIn (fun a2 b2 => ?_) (fun n2 => ?_)
  rotate_left
  · repeat refine gp_gc [] od_Rf_told rfl rfl ?_
    first | refine And.intro (fun _ => ?_) (fun c => absurd rfl c) | refine And.intro (fun c => absurd rfl c) (fun _ => ?_)
    repeat refine gp_gc [] od_Rf_told rfl rfl ?_
    exact h0 (fun z => n2 z.2)
  repeat refine gp_gc [] od_Rf_told rfl rfl ?_
  first | refine And.intro (fun c => absurd c (by decide)) (fun _ => ?_) | refine And.intro (fun _ => ?_) (fun c => absurd c (by decide))
  repeat refine gp_gc [] od_Rf_told rfl rfl ?_
  refine sp_Rf_toldBy (d := d) ok (gp_in57 a1 b1) ?_
  (repeat refine gp_gc [] od_Rf_told rfl rfl ?_)
  exact h1 ⟨a1, b1⟩ ⟨a2, b2⟩
def gf_thS (f : Nat → Int32) (i : Nat) (t : Int32) : Int32 := t ||| 1 <<< (f i &&& 31)
set_option maxRecDepth 100000 in
theorem sp_Rf_never {k : Int32} {n : Nat} (ok : gf_ok w n) (h1 : 0 ≤ k ∧ k ≤ 5 → K (some (.int (gp_it (gf_thS (w 97)) 0 n 0 &&& (gf_told w k (1 <<< (w 95 0 &&& 31) - 1) (w 95 1) n ^^^ -1)))) (gv w u q)) (h0 : ¬ (0 ≤ k ∧ k ≤ 5) → K (some (.int (-1))) (gv w u q)) : gp_Cal l G (d + 4) m_Rf_never [.ref 95, .int k] (gv w u q) K := by
  refine gp_enter od_Rf_never rfl ?_
  (repeat refine gp_gc [14] od_Rf_never rfl rfl ?_)
  refine sp_Rf_isMind (fun a1 b1 => ?_) (fun n1 => ?_)
  rotate_left
  · repeat refine gp_gc [14] od_Rf_never rfl rfl ?_
    first | refine And.intro (fun _ => ?_) (fun c => absurd rfl c) | refine And.intro (fun c => absurd rfl c) (fun _ => ?_)
    repeat refine gp_gc [14] od_Rf_never rfl rfl ?_
    exact h0 n1
  repeat refine gp_gc [14] od_Rf_never rfl rfl ?_
  first | refine And.intro (fun c => absurd c (by decide)) (fun _ => ?_) | refine And.intro (fun _ => ?_) (fun c => absurd c (by decide))
  repeat refine gp_gc [14] od_Rf_never rfl rfl ?_
  refine gp_iter (P := fun j s => ∀ x, x = nI j → gp_Go l G (d + 4) m_Rf_never K 14 [some (.ref 95), some (.int k), some (.int s), some (.int x)] [] (gv w u q) 0 0) (gf_thS (w 97)) n ?_ n 0 0 (by omega) ?_ 0 rfl
  · intro j s hj hp x ex
    subst ex
    have i1 := gf_i1 ok hj
    have ec := gf_c ok.2.1 hj
    have hp := hp _ (gp_inc rfl)
    have c : ¬ w 95 0 ≤ nI j := by rw [ok.1]; exact nI_ge hj (by have := ok.2.1; omega)
    refine gp_go od_Rf_never rfl ?_
    (repeat refine gp_gc [14] od_Rf_never rfl rfl ?_)
    refine gb_ge_f c ?_
    (repeat refine gp_gc [14] od_Rf_never rfl rfl ?_)
    refine And.intro i1 ?_
    (repeat refine gp_gc [14] od_Rf_never rfl rfl ?_)
    rw [ec]
    exact hp
  · intro x ex
    subst ex
    refine gp_go od_Rf_never rfl ?_
    (repeat refine gp_gc [14] od_Rf_never rfl rfl ?_)
    refine gb_ge_t (by rw [ok.1]; exact Int32.le_refl _) ?_
    (repeat refine gp_gc [14] od_Rf_never rfl rfl ?_)
    refine sp_Rf_allMarks (d := d + 3) ?_
    (repeat refine gp_gc [14] od_Rf_never rfl rfl ?_)
    refine sp_Rf_toldBy (d := d) ok (gp_in57 a1 b1) ?_
    (repeat refine gp_gc [14] od_Rf_never rfl rfl ?_)
    exact h1 ⟨a1, b1⟩
def gf_coS (f : Nat → Int32) (set : Int32) (i : Nat) (t : Int32) : Int32 := t + (if (set >>> (nI i &&& 31)) &&& 1 = 1 then f i else 0)
def gf_cost (f : Nat → Int32) (set : Int32) (n : Nat) : Int32 := gp_it (gf_coS f set) 0 n 0
set_option maxRecDepth 100000 in
theorem sp_Rf_costOfSet {set : Int32} {n : Nat} (ok : gf_ok w n) (h : K (some (.int (gf_cost (w 98) set n))) (gv w u q)) : gp_Cal l G (d + 0) m_Rf_costOfSet [.ref 95, .int set] (gv w u q) K := by
  refine gp_enter od_Rf_costOfSet rfl ?_
  (repeat refine gp_gc [4] od_Rf_costOfSet rfl rfl ?_)
  refine gp_iter (P := fun j s => ∀ x, x = nI j → gp_Go l G (d + 0) m_Rf_costOfSet K 4 [some (.ref 95), some (.int set), some (.int s), some (.int x)] [] (gv w u q) 0 0) (gf_coS (w 98) set) n ?_ n 0 0 (by omega) ?_ 0 rfl
  · intro j s hj hp x ex
    subst ex
    have i1 := gf_i1 ok hj
    have ec := gf_c ok.2.1 hj
    have hp := hp _ (gp_inc rfl)
    have c : ¬ w 95 0 ≤ nI j := by rw [ok.1]; exact nI_ge hj (by have := ok.2.1; omega)
    unfold gf_coS at hp
    refine gp_go od_Rf_costOfSet rfl ?_
    (repeat refine gp_gc [4] od_Rf_costOfSet rfl rfl ?_)
    refine gb_ge_f c ?_
    (repeat refine gp_gc [4] od_Rf_costOfSet rfl rfl ?_)
    by_cases b1 : (set >>> (nI j &&& 31)) &&& 1 = 1
    · rw [if_pos b1] at hp
      refine gb_ne_f b1 ?_
      (repeat refine gp_gc [4] od_Rf_costOfSet rfl rfl ?_)
      refine And.intro i1 ?_
      (repeat refine gp_gc [4] od_Rf_costOfSet rfl rfl ?_)
      rw [ec]
      exact hp
    · rw [if_neg b1] at hp
      refine gb_ne_t b1 ?_
      (repeat refine gp_gc [4] od_Rf_costOfSet rfl rfl ?_)
      exact hp
  · intro x ex
    subst ex
    refine gp_go od_Rf_costOfSet rfl ?_
    (repeat refine gp_gc [4] od_Rf_costOfSet rfl rfl ?_)
    refine gb_ge_t (by rw [ok.1]; exact Int32.le_refl _) ?_
    (repeat refine gp_gc [4] od_Rf_costOfSet rfl rfl ?_)
    exact h
def gf_an (nd : Nat → Int32) : Nat → Int32 → Int32
  | 0, s => s ||| (if (s >>> (nI 0 &&& 31)) &&& 1 = 1 then nd 0 else 0)
  | k + 1, s => gf_an nd k (s ||| (if (s >>> (nI (k + 1) &&& 31)) &&& 1 = 1 then nd (k + 1) else 0))
set_option maxRecDepth 100000 in
theorem sp_Rf_allNeeds {m : Int32} {i : Nat} (em : m = nI i) (hi : i < 16) (h : K (some (.int (gf_an (w 101) i (1 <<< (m &&& 31))))) (gv w u q)) : gp_Cal l G (d + 0) m_Rf_allNeeds [.ref 95, .int m] (gv w u q) K := by
  refine gp_enter od_Rf_allNeeds rfl ?_
  (repeat refine gp_gc [6] od_Rf_allNeeds rfl rfl ?_)
  have key : ∀ (k : Nat) (s x : Int32), k < 16 → x = nI k → K (some (.int (gf_an (w 101) k s))) (gv w u q) → gp_Go l G (d + 0) m_Rf_allNeeds K 6 [some (.ref 95), some (.int m), some (.int s), some (.int x)] [] (gv w u q) 0 0 := by
    intro k
    induction k with
    | zero =>
      intro s x hk ex h
      subst ex
      unfold gf_an at h
      have i1 : vp_in (nI 0) 16 := vp_in_nI (by decide) (by decide)
      refine gp_go od_Rf_allNeeds rfl ?_
      (repeat refine gp_gc [6] od_Rf_allNeeds rfl rfl ?_)
      refine gb1_lt_f (by decide) ?_
      (repeat refine gp_gc [6] od_Rf_allNeeds rfl rfl ?_)
      by_cases b1 : (s >>> (nI 0 &&& 31)) &&& 1 = 1
      · rw [if_pos b1] at h
        refine gb_ne_f b1 ?_
        (repeat refine gp_gc [6] od_Rf_allNeeds rfl rfl ?_)
        refine And.intro i1 ?_
        (repeat refine gp_gc [6] od_Rf_allNeeds rfl rfl ?_)
        refine gp_go od_Rf_allNeeds rfl ?_
        (repeat refine gp_gc [6] od_Rf_allNeeds rfl rfl ?_)
        refine gb1_lt_t (by decide) ?_
        (repeat refine gp_gc [6] od_Rf_allNeeds rfl rfl ?_)
        exact h
      · rw [if_neg b1] at h
        refine gb_ne_t b1 ?_
        (repeat refine gp_gc [6] od_Rf_allNeeds rfl rfl ?_)
        refine gp_go od_Rf_allNeeds rfl ?_
        (repeat refine gp_gc [6] od_Rf_allNeeds rfl rfl ?_)
        refine gb1_lt_t (by decide) ?_
        (repeat refine gp_gc [6] od_Rf_allNeeds rfl rfl ?_)
        exact h
    | succ k ih =>
      intro s x hk ex h
      subst ex
      unfold gf_an at h
      have i1 : vp_in (nI (k + 1)) 16 := vp_in_nI hk (by decide)
      have ec : (nI (k + 1)).toNatClampNeg = k + 1 := nI_clamp (by omega)
      have hlt : ¬ nI (k + 1) < 0 := nI_pos (by omega)
      have e1 : nI (k + 1) + Int32.ofInt (-1) = nI k := pk_m1 k
      refine gp_go od_Rf_allNeeds rfl ?_
      (repeat refine gp_gc [6] od_Rf_allNeeds rfl rfl ?_)
      refine gb1_lt_f hlt ?_
      (repeat refine gp_gc [6] od_Rf_allNeeds rfl rfl ?_)
      by_cases b1 : (s >>> (nI (k + 1) &&& 31)) &&& 1 = 1
      · rw [if_pos b1] at h
        refine gb_ne_f b1 ?_
        (repeat refine gp_gc [6] od_Rf_allNeeds rfl rfl ?_)
        refine And.intro i1 ?_
        (repeat refine gp_gc [6] od_Rf_allNeeds rfl rfl ?_)
        rw [ec]
        exact ih _ _ (by omega) e1 h
      · rw [if_neg b1] at h
        refine gb_ne_t b1 ?_
        (repeat refine gp_gc [6] od_Rf_allNeeds rfl rfl ?_)
        exact ih _ _ (by omega) e1 h
  exact key i _ _ hi em h

end
