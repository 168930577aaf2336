section
variable {l : Launch} {G : gp_G} {d : Nat} {w : Nat → Nat → Int32} {u : Int64 × (Nat → Int64)} {q : Nat → Nat} {K : Option Value → gp_H → Prop}
/-! ===== the class's plate: chains, roots, who can take what right ===== -/
theorem gp_it_snoc {X : Type} (f : Nat → X → X) : ∀ (k a : Nat) (x : X), gp_it f a (k + 1) x = f (a + k) (gp_it f a k x)
  | 0, a, x => rfl
  | k + 1, a, x => by
    have e := gp_it_snoc f k (a + 1) (f a x)
    rw [show a + 1 + k = a + (k + 1) by omega] at e
    exact e
theorem gc_ix {i : Nat} (hi : i < 16) : vp_in (nI i) 16 := vp_in_nI hi (by decide)
section
variable {m i : Nat}
set_option maxRecDepth 100000 in
theorem sp_Pl_all (h : K (some (.int (1 <<< (w 1 3 &&& 31) - 1))) (gv w u q)) : gp_Cal l G (d + 0) m_Pl_all [.ref 1] (gv w u q) K := by
  refine gp_enter od_Pl_all rfl ?_
  (repeat refine gp_gc [] od_Pl_all rfl rfl ?_)
  exact h
set_option maxRecDepth 100000 in
theorem sp_Pl_canSee (hm : m < 7) (hi : i < 16) (ik : vp_in (w (5 + i) 0) 7) (h1 : w (5 + i) 4 &&& (w (gp_ma m) 4 ^^^ -1) = 0 → 0 < gc_left w i (w 1 4) → K (some (.int 1)) (gv w u q)) (h0 : ¬ (w (5 + i) 4 &&& (w (gp_ma m) 4 ^^^ -1) = 0 ∧ 0 < gc_left w i (w 1 4)) → K (some (.int 0)) (gv w u q)) : gp_Cal l G (d + 1) m_Pl_canSee [.ref 1, .ref (gp_ma m), .ref (5 + i)] (gv w u q) K := by
  refine gp_enter od_Pl_canSee rfl ?_
  (repeat refine gp_gc [] od_Pl_canSee rfl rfl ?_)
  refine gs_get (gv_mark hi) rfl rfl ?_
  (repeat refine gp_gc [] od_Pl_canSee rfl rfl ?_)
  refine gs_get (gv_mind hm) rfl rfl ?_
  (repeat refine gp_gc [] od_Pl_canSee rfl rfl ?_)
  by_cases b1 : w (5 + i) 4 &&& (w (gp_ma m) 4 ^^^ -1) = 0
  rotate_left
  · refine gb1_ne_t b1 ?_
    (repeat refine gp_gc [] od_Pl_canSee rfl rfl ?_)
    exact And.intro (Or.inl rfl) (h0 (fun z => b1 z.1))
  refine gb1_ne_f b1 ?_
  (repeat refine gp_gc [] od_Pl_canSee rfl rfl ?_)
  refine sp_Pl_leftOf (d := d) hi ik ?_
  (repeat refine gp_gc [] od_Pl_canSee rfl rfl ?_)
  by_cases b2 : 0 < gc_left w i (w 1 4)
  · refine gb1_le_f' b2 ?_
    (repeat refine gp_gc [] od_Pl_canSee rfl rfl ?_)
    exact And.intro (Or.inr rfl) (h1 b1 b2)
  · refine gb1_le_t' b2 ?_
    (repeat refine gp_gc [] od_Pl_canSee rfl rfl ?_)
    exact And.intro (Or.inl rfl) (h0 (fun z => b2 z.2))
def gc_dep (w : Nat → Nat → Int32) (i : Nat) (dp : Int32) : Int32 := if nI i = dp then (if w (5 + i) 3 + 100 < 999 then w (5 + i) 3 + 100 else 999) else w (5 + i) 3
abbrev gc_abl (w : Nat → Nat → Int32) (m : Nat) (y dp : Int32) (i : Nat) : Prop := w (5 + i) 4 &&& (w (gp_ma m) 4 ^^^ -1) = 0 ∧ w (5 + i) 6 &&& (w (gp_ma m) 5 ^^^ -1) = 0 ∧ 0 < gc_dep w i dp - y * w 3 (w (5 + i) 0).toNatClampNeg
set_option maxRecDepth 100000 in
theorem sp_Pl_isAble {x y dp : Int32} (hm : m < 7) (ex : x = nI i) (hi : i < 16) (ik : vp_in (w (5 + i) 0) 7) (h1 : gc_abl w m y dp i → K (some (.int 1)) (gv w u q)) (h0 : ¬ gc_abl w m y dp i → K (some (.int 0)) (gv w u q)) : gp_Cal l G (d + 1) m_Pl_isAble [.ref 1, .ref (gp_ma m), .int x, .int y, .int dp] (gv w u q) K := by
  refine gp_enter od_Pl_isAble rfl ?_
  subst ex
  have ec : (nI i).toNatClampNeg = i := nI_clamp (by omega)
  have fin : ∀ e : Int32, e = gc_dep w i dp → gp_Go l G (d + 1) m_Pl_isAble K 38 [some (.ref 1), some (.ref (gp_ma m)), some (.int (nI i)), some (.int y), some (.int dp), some (.ref (5 + i)), some (.int e)] [] (gv w u q) 0 0 := by
    intro e ee
    refine gp_go od_Pl_isAble rfl ?_
    (repeat refine gp_gc [38] od_Pl_isAble rfl rfl ?_)
    refine gs_get (gv_mark hi) rfl rfl ?_
    (repeat refine gp_gc [38] od_Pl_isAble rfl rfl ?_)
    refine gs_get (gv_mind hm) rfl rfl ?_
    (repeat refine gp_gc [38] od_Pl_isAble rfl rfl ?_)
    by_cases b1 : w (5 + i) 4 &&& (w (gp_ma m) 4 ^^^ -1) = 0
    rotate_left
    · refine gb1_ne_t b1 ?_
      (repeat refine gp_gc [38] od_Pl_isAble rfl rfl ?_)
      exact And.intro (Or.inl rfl) (h0 (fun z => b1 z.1))
    refine gb1_ne_f b1 ?_
    (repeat refine gp_gc [38] od_Pl_isAble rfl rfl ?_)
    refine gs_get (gv_mark hi) rfl rfl ?_
    (repeat refine gp_gc [38] od_Pl_isAble rfl rfl ?_)
    refine gs_get (gv_mind hm) rfl rfl ?_
    (repeat refine gp_gc [38] od_Pl_isAble rfl rfl ?_)
    by_cases b2 : w (5 + i) 6 &&& (w (gp_ma m) 5 ^^^ -1) = 0
    rotate_left
    · refine gb1_ne_t b2 ?_
      (repeat refine gp_gc [38] od_Pl_isAble rfl rfl ?_)
      exact And.intro (Or.inl rfl) (h0 (fun z => b2 z.2.1))
    refine gb1_ne_f b2 ?_
    (repeat refine gp_gc [38] od_Pl_isAble rfl rfl ?_)
    refine gs_get (gv_mark hi) rfl rfl ?_
    (repeat refine gp_gc [38] od_Pl_isAble rfl rfl ?_)
    refine And.intro ik ?_
    (repeat refine gp_gc [38] od_Pl_isAble rfl rfl ?_)
    rw [ee]
    by_cases b3 : 0 < gc_dep w i dp - y * w 3 (w (5 + i) 0).toNatClampNeg
    · refine gb1_le_f' b3 ?_
      (repeat refine gp_gc [38] od_Pl_isAble rfl rfl ?_)
      exact And.intro (Or.inr rfl) (h1 ⟨b1, b2, b3⟩)
    · refine gb1_le_t' b3 ?_
      (repeat refine gp_gc [38] od_Pl_isAble rfl rfl ?_)
      exact And.intro (Or.inl rfl) (h0 (fun z => b3 z.2.2))
  (repeat refine gp_gc [38] od_Pl_isAble rfl rfl ?_)
  refine And.intro (gc_ix hi) ⟨_, rfl, ?_⟩
  rw [ec]
  (repeat refine gp_gc [38] od_Pl_isAble rfl rfl ?_)
  unfold gc_dep at fin
  by_cases b0 : nI i = dp
  · refine gb_ne_f b0 ?_
    rw [if_pos b0] at fin
    (repeat refine gp_gc [38] od_Pl_isAble rfl rfl ?_)
    refine gs_get (gv_mark hi) rfl rfl ?_
    (repeat refine gp_gc [38] od_Pl_isAble rfl rfl ?_)
    exact fin _ rfl
  · refine gb_ne_t b0 ?_
    rw [if_neg b0] at fin
    (repeat refine gp_gc [38] od_Pl_isAble rfl rfl ?_)
    refine gs_get (gv_mark hi) rfl rfl ?_
    (repeat refine gp_gc [38] od_Pl_isAble rfl rfl ?_)
    exact fin _ rfl
/-- the marks are some n, and each has a kind -/
def gc_ok (w : Nat → Nat → Int32) (n : Nat) : Prop := w 1 3 = nI n ∧ n ≤ 16 ∧ ∀ i, i < n → vp_in (w (5 + i) 0) 7
abbrev gc_rC (w : Nat → Nat → Int32) (m : Nat) (set y dp : Int32) (i : Nat) (r : Int32) : Prop := (set >>> (nI i &&& 31)) &&& 1 = 1 ∧ w (5 + i) 5 &&& (r ^^^ -1) = 0 ∧ gc_abl w m y dp i
def gc_rS (w : Nat → Nat → Int32) (m : Nat) (set y dp : Int32) (i : Nat) (r : Int32) : Int32 := if gc_rC w m set y dp i r then r ||| 1 <<< (nI i &&& 31) else r
def gc_rts (w : Nat → Nat → Int32) (m : Nat) (set y dp : Int32) (n : Nat) : Int32 := gp_it (gc_rS w m set y dp) 0 n 0
set_option maxRecDepth 100000 in
theorem sp_Pl_rights {set y dp : Int32} {n : Nat} (ok : gc_ok w n) (hm : m < 7) (h : K (some (.int (gc_rts w m set y dp n))) (gv w u q)) : gp_Cal l G (d + 2) m_Pl_rights [.ref 1, .int set, .ref (gp_ma m), .int y, .int dp] (gv w u q) K := by
  refine gp_enter od_Pl_rights rfl ?_
  have hn := ok.2.1
  (repeat refine gp_gc [6, 50] od_Pl_rights rfl rfl ?_)
  refine gp_iter (P := fun j s => ∀ x, x = nI j → gp_Go l G (d + 2) m_Pl_rights K 6 [some (.ref 1), some (.int set), some (.ref (gp_ma m)), some (.int y), some (.int dp), some (.int s), some (.int x), none] [] (gv w u q) 0 0) (gc_rS w m set y dp) n ?_ n 0 0 (by omega) ?_ 0 rfl
  · intro j s hj hp x ex
    subst ex
    have hp := hp _ (gp_inc rfl)
    have ec : (nI j).toNatClampNeg = j := nI_clamp (by omega)
    have ik := ok.2.2 j hj
    unfold gc_rS at hp
    have no : ¬ gc_rC w m set y dp j s → gp_Go l G (d + 2) m_Pl_rights K 50 [some (.ref 1), some (.int set), some (.ref (gp_ma m)), some (.int y), some (.int dp), some (.int s), some (.int (nI j)), some (.int 0)] [] (gv w u q) 0 0 := by
      intro c
      rw [if_neg c] at hp
      refine gp_go od_Pl_rights rfl ?_
      (repeat refine gp_gc [6, 50] od_Pl_rights rfl rfl ?_)
      refine gb1_eq_t rfl ?_
      (repeat refine gp_gc [6, 50] od_Pl_rights rfl rfl ?_)
      refine gp_drop 7 ?_
      exact hp
    refine gp_go od_Pl_rights rfl ?_
    (repeat refine gp_gc [6, 50] od_Pl_rights rfl rfl ?_)
    refine gb_ge_f (by rw [ok.1]; exact nI_ge hj (by omega)) ?_
    (repeat refine gp_gc [6, 50] od_Pl_rights rfl rfl ?_)
    by_cases b1 : (set >>> (nI j &&& 31)) &&& 1 = 1
    rotate_left
    · refine gb_ne_t b1 ?_
      (repeat refine gp_gc [6, 50] od_Pl_rights rfl rfl ?_)
      exact no (fun z => b1 z.1)
    refine gb_ne_f b1 ?_
    (repeat refine gp_gc [6, 50] od_Pl_rights rfl rfl ?_)
    refine And.intro (gc_ix (by omega)) ⟨_, rfl, ?_⟩
    rw [ec]
    (repeat refine gp_gc [6, 50] od_Pl_rights rfl rfl ?_)
    refine gs_get (gv_mark (by omega)) rfl rfl ?_
    (repeat refine gp_gc [6, 50] od_Pl_rights rfl rfl ?_)
    by_cases b2 : w (5 + j) 5 &&& (s ^^^ -1) = 0
    rotate_left
    · refine gb1_ne_t b2 ?_
      (repeat refine gp_gc [6, 50] od_Pl_rights rfl rfl ?_)
      exact no (fun z => b2 z.2.1)
    refine gb1_ne_f b2 ?_
    (repeat refine gp_gc [6, 50] od_Pl_rights rfl rfl ?_)
    refine gp_go od_Pl_rights rfl ?_
    (repeat refine gp_gc [6, 50] od_Pl_rights rfl rfl ?_)
    refine gb1_eq_f (by decide) ?_
    (repeat refine gp_gc [6, 50] od_Pl_rights rfl rfl ?_)
    refine sp_Pl_isAble (d := d) hm rfl (by omega) ik (fun b3 => ?_) (fun b3 => ?_)
    · rw [if_pos ⟨b1, b2, b3⟩] at hp
      (repeat refine gp_gc [6, 50] od_Pl_rights rfl rfl ?_)
      refine gb1_eq_f (by decide) ?_
      (repeat refine gp_gc [6, 50] od_Pl_rights rfl rfl ?_)
      refine gp_drop 7 ?_
      exact hp
    · rw [if_neg (fun z => b3 z.2.2)] at hp
      (repeat refine gp_gc [6, 50] od_Pl_rights rfl rfl ?_)
      refine gb1_eq_t rfl ?_
      (repeat refine gp_gc [6, 50] od_Pl_rights rfl rfl ?_)
      refine gp_drop 7 ?_
      exact hp
  · intro x ex
    subst ex
    refine gp_go od_Pl_rights rfl ?_
    (repeat refine gp_gc [6, 50] od_Pl_rights rfl rfl ?_)
    refine gb_ge_t (by rw [ok.1]; exact Int32.le_refl _) ?_
    (repeat refine gp_gc [6, 50] od_Pl_rights rfl rfl ?_)
    exact h
def gc_thS (w : Nat → Nat → Int32) (set : Int32) (i : Nat) (t : Int32) : Int32 := if (set >>> (nI i &&& 31)) &&& 1 = 1 then t ||| 1 <<< (w (5 + i) 1 &&& 31) else t
def gc_ths (w : Nat → Nat → Int32) (set : Int32) (n : Nat) : Int32 := gp_it (gc_thS w set) 0 n 0
set_option maxRecDepth 100000 in
theorem sp_Pl_thingsOf {set : Int32} {n : Nat} (ok : gc_ok w n) (h : K (some (.int (gc_ths w set n))) (gv w u q)) : gp_Cal l G (d + 0) m_Pl_thingsOf [.ref 1, .int set] (gv w u q) K := by
  refine gp_enter od_Pl_thingsOf rfl ?_
  have hn := ok.2.1
  (repeat refine gp_gc [4] od_Pl_thingsOf rfl rfl ?_)
  refine gp_iter (P := fun j s => ∀ x, x = nI j → gp_Go l G (d + 0) m_Pl_thingsOf K 4 [some (.ref 1), some (.int set), some (.int s), some (.int x)] [] (gv w u q) 0 0) (gc_thS w set) n ?_ n 0 0 (by omega) ?_ 0 rfl
  · intro j s hj hp x ex
    subst ex
    have hp := hp _ (gp_inc rfl)
    have ec : (nI j).toNatClampNeg = j := nI_clamp (by omega)
    unfold gc_thS at hp
    refine gp_go od_Pl_thingsOf rfl ?_
    (repeat refine gp_gc [4] od_Pl_thingsOf rfl rfl ?_)
    refine gb_ge_f (by rw [ok.1]; exact nI_ge hj (by omega)) ?_
    (repeat refine gp_gc [4] od_Pl_thingsOf rfl rfl ?_)
    by_cases b1 : (set >>> (nI j &&& 31)) &&& 1 = 1
    rotate_left
    · rw [if_neg b1] at hp
      refine gb_ne_t b1 ?_
      (repeat refine gp_gc [4] od_Pl_thingsOf rfl rfl ?_)
      exact hp
    rw [if_pos b1] at hp
    refine gb_ne_f b1 ?_
    (repeat refine gp_gc [4] od_Pl_thingsOf rfl rfl ?_)
    refine And.intro (gc_ix (by omega)) ⟨_, rfl, ?_⟩
    rw [ec]
    (repeat refine gp_gc [4] od_Pl_thingsOf rfl rfl ?_)
    refine gs_get (gv_mark (by omega)) rfl rfl ?_
    (repeat refine gp_gc [4] od_Pl_thingsOf rfl rfl ?_)
    exact hp
  · intro x ex
    subst ex
    refine gp_go od_Pl_thingsOf rfl ?_
    (repeat refine gp_gc [4] od_Pl_thingsOf rfl rfl ?_)
    refine gb_ge_t (by rw [ok.1]; exact Int32.le_refl _) ?_
    (repeat refine gp_gc [4] od_Pl_thingsOf rfl rfl ?_)
    exact h
set_option maxRecDepth 100000 in
theorem sp_Pl_rootsOf {x : Int32} {i : Nat} (em : x = nI i) (hi : i < 16) (h : K (some (.int (gf_an (fun j => w (5 + j) 5) i (1 <<< (x &&& 31))))) (gv w u q)) : gp_Cal l G (d + 0) m_Pl_rootsOf [.ref 1, .int x] (gv w u q) K := by
  refine gp_enter od_Pl_rootsOf rfl ?_
  (repeat refine gp_gc [6] od_Pl_rootsOf rfl rfl ?_)
  have key : ∀ (k : Nat) (s y : Int32), k < 16 → y = nI k → K (some (.int (gf_an (fun j => w (5 + j) 5) k s))) (gv w u q) → gp_Go l G (d + 0) m_Pl_rootsOf K 6 [some (.ref 1), some (.int x), some (.int s), some (.int y)] [] (gv w u q) 0 0 := by
    intro k
    induction k with
    | zero =>
      intro s y hk ey h
      subst ey
      unfold gf_an at h
      refine gp_go od_Pl_rootsOf rfl ?_
      (repeat refine gp_gc [6] od_Pl_rootsOf rfl rfl ?_)
      refine gb1_lt_f (by decide) ?_
      (repeat refine gp_gc [6] od_Pl_rootsOf rfl rfl ?_)
      by_cases b1 : (s >>> (nI 0 &&& 31)) &&& 1 = 1
      · rw [if_pos b1] at h
        refine gb_ne_f b1 ?_
        (repeat refine gp_gc [6] od_Pl_rootsOf rfl rfl ?_)
        refine And.intro (gc_ix (by decide)) ⟨_, rfl, ?_⟩
        (repeat refine gp_gc [6] od_Pl_rootsOf rfl rfl ?_)
        refine gp_go od_Pl_rootsOf rfl ?_
        (repeat refine gp_gc [6] od_Pl_rootsOf rfl rfl ?_)
        refine gb1_lt_t (by decide) ?_
        (repeat refine gp_gc [6] od_Pl_rootsOf rfl rfl ?_)
        exact h
      · rw [if_neg b1, Int32.or_zero] at h
        refine gb_ne_t b1 ?_
        (repeat refine gp_gc [6] od_Pl_rootsOf rfl rfl ?_)
        refine gp_go od_Pl_rootsOf rfl ?_
        (repeat refine gp_gc [6] od_Pl_rootsOf rfl rfl ?_)
        refine gb1_lt_t (by decide) ?_
        (repeat refine gp_gc [6] od_Pl_rootsOf rfl rfl ?_)
        exact h
    | succ k ih =>
      intro s y hk ey h
      subst ey
      unfold gf_an at h
      have ec : (nI (k + 1)).toNatClampNeg = k + 1 := nI_clamp (by omega)
      have e1 : nI (k + 1) + Int32.ofInt (-1) = nI k := pk_m1 k
      refine gp_go od_Pl_rootsOf rfl ?_
      (repeat refine gp_gc [6] od_Pl_rootsOf rfl rfl ?_)
      refine gb1_lt_f (nI_pos (by omega)) ?_
      (repeat refine gp_gc [6] od_Pl_rootsOf rfl rfl ?_)
      by_cases b1 : (s >>> (nI (k + 1) &&& 31)) &&& 1 = 1
      · rw [if_pos b1] at h
        refine gb_ne_f b1 ?_
        (repeat refine gp_gc [6] od_Pl_rootsOf rfl rfl ?_)
        refine And.intro (gc_ix (by omega)) ⟨_, rfl, ?_⟩
        rw [ec]
        (repeat refine gp_gc [6] od_Pl_rootsOf rfl rfl ?_)
        refine gs_get (gv_mark (by omega)) rfl rfl ?_
        (repeat refine gp_gc [6] od_Pl_rootsOf rfl rfl ?_)
        exact ih _ _ (by omega) e1 h
      · rw [if_neg b1, Int32.or_zero] at h
        refine gb_ne_t b1 ?_
        (repeat refine gp_gc [6] od_Pl_rootsOf rfl rfl ?_)
        exact ih _ _ (by omega) e1 h
  exact key i _ _ hi em h
end

end
