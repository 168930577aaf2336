section
variable {l : Launch} {G : gp_G} {d : Nat} {w : Nat → Nat → Int32} {u : Int64 × (Nat → Int64)} {q : Nat → Nat} {K : Option Value → gp_H → Prop}
/-! ===== the reference's methods: what marks are ===== -/
def gf_depth (w : Nat → Nat → Int32) (m : Int32) : Int32 := if 999 < (if m = w 95 13 then w 99 m.toNatClampNeg + 100 else w 99 m.toNatClampNeg) then 999 else (if m = w 95 13 then w 99 m.toNatClampNeg + 100 else w 99 m.toNatClampNeg)
def gf_left (w : Nat → Nat → Int32) (m y : Int32) : Int32 := gf_depth w m - y * w 104 (w 96 m.toNatClampNeg).toNatClampNeg
set_option maxRecDepth 100000 in
theorem sp_Rf_depth {m : Int32} (i1 : vp_in m 16) (h : K (some (.int (gf_depth w m))) (gv w u q)) : gp_Cal l G (d + 0) m_Rf_depth [.ref 95, .int m] (gv w u q) K := by
  refine gp_enter od_Rf_depth rfl ?_
  unfold gf_depth at h
  by_cases c : m = w 95 13
  · rw [if_pos c] at h
    by_cases c2 : 999 < w 99 m.toNatClampNeg + 100
    · rw [if_pos c2] at h
      (repeat refine gp_gc [] od_Rf_depth rfl rfl ?_)
      refine gb_ne_f c ?_
      (repeat refine gp_gc [] od_Rf_depth rfl rfl ?_)
      refine And.intro i1 ?_
      (repeat refine gp_gc [] od_Rf_depth rfl rfl ?_)
      refine gb_le_f' c2 ?_
      (repeat refine gp_gc [] od_Rf_depth rfl rfl ?_)
      exact h
    · rw [if_neg c2] at h
      (repeat refine gp_gc [] od_Rf_depth rfl rfl ?_)
      refine gb_ne_f c ?_
      (repeat refine gp_gc [] od_Rf_depth rfl rfl ?_)
      refine And.intro i1 ?_
      (repeat refine gp_gc [] od_Rf_depth rfl rfl ?_)
      refine gb_le_t' c2 ?_
      (repeat refine gp_gc [] od_Rf_depth rfl rfl ?_)
      exact h
  · rw [if_neg c] at h
    by_cases c2 : 999 < w 99 m.toNatClampNeg
    · rw [if_pos c2] at h
      (repeat refine gp_gc [] od_Rf_depth rfl rfl ?_)
      refine gb_ne_t c ?_
      (repeat refine gp_gc [] od_Rf_depth rfl rfl ?_)
      refine And.intro i1 ?_
      (repeat refine gp_gc [] od_Rf_depth rfl rfl ?_)
      refine gb_le_f' c2 ?_
      (repeat refine gp_gc [] od_Rf_depth rfl rfl ?_)
      exact h
    · rw [if_neg c2] at h
      (repeat refine gp_gc [] od_Rf_depth rfl rfl ?_)
      refine gb_ne_t c ?_
      (repeat refine gp_gc [] od_Rf_depth rfl rfl ?_)
      refine And.intro i1 ?_
      (repeat refine gp_gc [] od_Rf_depth rfl rfl ?_)
      refine gb_le_t' c2 ?_
      (repeat refine gp_gc [] od_Rf_depth rfl rfl ?_)
      exact h
set_option maxRecDepth 100000 in
theorem sp_Rf_left {m y : Int32} (i1 : vp_in m 16) (i2 : vp_in (w 96 m.toNatClampNeg) 7) (h : K (some (.int (gf_left w m y))) (gv w u q)) : gp_Cal l G (d + 1) m_Rf_left [.ref 95, .int m, .int y] (gv w u q) K := by
  refine gp_enter od_Rf_left rfl ?_
  (repeat refine gp_gc [] od_Rf_left rfl rfl ?_)
  refine sp_Rf_depth (d := d) i1 ?_
  (repeat refine gp_gc [] od_Rf_left rfl rfl ?_)
  refine And.intro i1 ?_
  (repeat refine gp_gc [] od_Rf_left rfl rfl ?_)
  refine And.intro i2 ?_
  (repeat refine gp_gc [] od_Rf_left rfl rfl ?_)
  exact h
set_option maxRecDepth 100000 in
theorem sp_Rf_isWorn {m : Int32} (i1 : vp_in m 16) (i2 : vp_in (w 96 m.toNatClampNeg) 7) (h1 : 0 < gf_left w m (w 95 1) → gf_left w m (w 95 1) < gf_depth w m / 2 → K (some (.int 1)) (gv w u q)) (h0 : ¬ (0 < gf_left w m (w 95 1) ∧ gf_left w m (w 95 1) < gf_depth w m / 2) → K (some (.int 0)) (gv w u q)) : gp_Cal l G (d + 2) m_Rf_isWorn [.ref 95, .int m] (gv w u q) K := by
  refine gp_enter od_Rf_isWorn rfl ?_
  (repeat refine gp_gc [] od_Rf_isWorn rfl rfl ?_)
  refine sp_Rf_left (d := d) i1 i2 ?_
  (repeat refine gp_gc [] od_Rf_isWorn rfl rfl ?_)
  refine And.intro (fun c => ?_) (fun c => ?_)
  · (repeat refine gp_gc [] od_Rf_isWorn rfl rfl ?_)
    exact And.intro (Or.inl rfl) (h0 (fun h => absurd h.1 (Int32.not_lt.mpr c)))
  (repeat refine gp_gc [] od_Rf_isWorn rfl rfl ?_)
  refine sp_Rf_left (d := d) i1 i2 ?_
  (repeat refine gp_gc [] od_Rf_isWorn rfl rfl ?_)
  refine sp_Rf_depth (d := d + 1) i1 ?_
  (repeat refine gp_gc [] od_Rf_isWorn rfl rfl ?_)
  refine And.intro (by decide) ?_
  (repeat refine gp_gc [] od_Rf_isWorn rfl rfl ?_)
  refine And.intro (fun c2 => ?_) (fun c2 => ?_)
  · (repeat refine gp_gc [] od_Rf_isWorn rfl rfl ?_)
    exact And.intro (Or.inl rfl) (h0 (fun h => absurd h.2 (Int32.not_lt.mpr c2)))
  · (repeat refine gp_gc [] od_Rf_isWorn rfl rfl ?_)
    exact And.intro (Or.inr rfl) (h1 (Int32.not_le.mp c) (Int32.not_le.mp c2))
set_option maxRecDepth 100000 in
theorem sp_Rf_canSee {k m y : Int32} (i0 : vp_in k 7) (i1 : vp_in m 16) (i2 : vp_in (w 96 m.toNatClampNeg) 7) (h1 : w 100 m.toNatClampNeg &&& (w 107 k.toNatClampNeg ^^^ -1) = 0 → 0 < gf_left w m y → K (some (.int 1)) (gv w u q)) (h0 : ¬ (w 100 m.toNatClampNeg &&& (w 107 k.toNatClampNeg ^^^ -1) = 0 ∧ 0 < gf_left w m y) → K (some (.int 0)) (gv w u q)) : gp_Cal l G (d + 2) m_Rf_canSee [.ref 95, .int k, .int m, .int y] (gv w u q) K := by
  refine gp_enter od_Rf_canSee rfl ?_
  (repeat refine gp_gc [] od_Rf_canSee rfl rfl ?_)
  refine And.intro i1 ?_
  (repeat refine gp_gc [] od_Rf_canSee rfl rfl ?_)
  refine And.intro i0 ?_
  (repeat refine gp_gc [] od_Rf_canSee rfl rfl ?_)
  refine And.intro (fun c => ?_) (fun c => ?_)
  · (repeat refine gp_gc [] od_Rf_canSee rfl rfl ?_)
    exact And.intro (Or.inl rfl) (h0 (fun h => c h.1))
  (repeat refine gp_gc [] od_Rf_canSee rfl rfl ?_)
  refine sp_Rf_left (d := d) i1 i2 ?_
  (repeat refine gp_gc [] od_Rf_canSee rfl rfl ?_)
  refine And.intro (fun c2 => ?_) (fun c2 => ?_)
  · (repeat refine gp_gc [] od_Rf_canSee rfl rfl ?_)
    exact And.intro (Or.inl rfl) (h0 (fun h => absurd h.2 (Int32.not_lt.mpr c2)))
  · (repeat refine gp_gc [] od_Rf_canSee rfl rfl ?_)
    exact And.intro (Or.inr rfl) (h1 c (Int32.not_le.mp c2))
set_option maxRecDepth 100000 in
theorem sp_Rf_isMind {k : Int32} (h1 : 0 ≤ k → k ≤ 5 → K (some (.int 1)) (gv w u q)) (h0 : ¬ (0 ≤ k ∧ k ≤ 5) → K (some (.int 0)) (gv w u q)) : gp_Cal l G (d + 1) m_Rf_isMind [.ref 95, .int k] (gv w u q) K := by
  refine gp_enter od_Rf_isMind rfl ?_
  (repeat refine gp_gc [] od_Rf_isMind rfl rfl ?_)
  refine sp_Rf_isIn (fun a b => ?_) (fun a => ?_)
  · (repeat refine gp_gc [] od_Rf_isMind rfl rfl ?_)
    exact And.intro (Or.inr rfl) (h1 a b)
  · (repeat refine gp_gc [] od_Rf_isMind rfl rfl ?_)
    exact And.intro (Or.inl rfl) (h0 a)
set_option maxRecDepth 100000 in
theorem sp_Rf_isBeat {m : Int32} (h1 : 0 ≤ m → m ≤ w 95 57 - 1 → K (some (.int 1)) (gv w u q)) (h0 : ¬ (0 ≤ m ∧ m ≤ w 95 57 - 1) → K (some (.int 0)) (gv w u q)) : gp_Cal l G (d + 1) m_Rf_isBeat [.ref 95, .int m] (gv w u q) K := by
  refine gp_enter od_Rf_isBeat rfl ?_
  (repeat refine gp_gc [] od_Rf_isBeat rfl rfl ?_)
  refine sp_Rf_isIn (fun a b => ?_) (fun a => ?_)
  · (repeat refine gp_gc [] od_Rf_isBeat rfl rfl ?_)
    exact And.intro (Or.inr rfl) (h1 a b)
  · (repeat refine gp_gc [] od_Rf_isBeat rfl rfl ?_)
    exact And.intro (Or.inl rfl) (h0 a)
set_option maxRecDepth 100000 in
theorem sp_Rf_allMarks (h : K (some (.int (1 <<< (w 95 0 &&& 31) - 1))) (gv w u q)) : gp_Cal l G (d + 0) m_Rf_allMarks [.ref 95] (gv w u q) K := by
  refine gp_enter od_Rf_allMarks rfl ?_
  (repeat refine gp_gc [] od_Rf_allMarks rfl rfl ?_)
  exact h
set_option maxRecDepth 100000 in
theorem sp_Rf_fault {what : Int32} (h : K (some (.int (if what = 0 then w 95 40 else if what = 1 then w 95 42 else -1))) (gv w u q)) : gp_Cal l G (d + 0) m_Rf_fault [.ref 95, .int what] (gv w u q) K := by
  refine gp_enter od_Rf_fault rfl ?_
  by_cases c : what = 0
  · rw [if_pos c] at h
    (repeat refine gp_gc [] od_Rf_fault rfl rfl ?_)
    refine gb1_ne_f c ?_
    (repeat refine gp_gc [] od_Rf_fault rfl rfl ?_)
    exact h
  · rw [if_neg c] at h
    by_cases c2 : what = 1
    · rw [if_pos c2] at h
      (repeat refine gp_gc [] od_Rf_fault rfl rfl ?_)
      refine gb1_ne_t c ?_
      (repeat refine gp_gc [] od_Rf_fault rfl rfl ?_)
      refine gb_ne_f c2 ?_
      (repeat refine gp_gc [] od_Rf_fault rfl rfl ?_)
      exact h
    · rw [if_neg c2] at h
      (repeat refine gp_gc [] od_Rf_fault rfl rfl ?_)
      refine gb1_ne_t c ?_
      (repeat refine gp_gc [] od_Rf_fault rfl rfl ?_)
      refine gb_ne_t c2 ?_
      (repeat refine gp_gc [] od_Rf_fault rfl rfl ?_)
      exact h
def gf_look (w : Nat → Nat → Int32) (what : Int32) (a b c e f g : Int32) : Int32 := if what = 0 then a else if what = 1 then b else if what = 2 then c else if what = 3 then e else if what = 4 then f else if what = 5 then g else -1
set_option maxRecDepth 100000 in
theorem sp_Rf_look {what : Int32} (h : K (some (.int (gf_look w what (w 95 0) (w 95 2) (w 95 50) (w 95 57) (w 95 65) (w 95 1)))) (gv w u q)) : gp_Cal l G (d + 0) m_Rf_look [.ref 95, .int what] (gv w u q) K := by
  refine gp_enter od_Rf_look rfl ?_
  (repeat refine gp_gc [] od_Rf_look rfl rfl ?_)
  refine And.intro (fun c => ?_) (And.intro (by decide) (And.intro (fun c => ?_) (And.intro (fun c => ?_) (And.intro (fun c => ?_) (And.intro (fun c => ?_) (And.intro (fun c => ?_) (And.intro (fun c => ?_) trivial)))))))
  · (repeat refine gp_gc [] od_Rf_look rfl rfl ?_)
    have hn : ∀ k : Int32, 0 ≤ k.toInt → k.toInt ≤ 5 → ¬ what = k := fun k h1 h2 e => by subst e; rcases c with c | c <;> omega
    unfold gf_look at h
    rw [if_neg (hn 0 (by decide) (by decide)), if_neg (hn 1 (by decide) (by decide)), if_neg (hn 2 (by decide) (by decide)), if_neg (hn 3 (by decide) (by decide)), if_neg (hn 4 (by decide) (by decide)), if_neg (hn 5 (by decide) (by decide))] at h
    exact h
  · have e : what = 0 := Int32.toInt_inj.mp (by rw [c]; rfl)
    subst e
    (repeat refine gp_gc [] od_Rf_look rfl rfl ?_)
    exact h
  · have e : what = 1 := Int32.toInt_inj.mp (by rw [c]; rfl)
    subst e
    (repeat refine gp_gc [] od_Rf_look rfl rfl ?_)
    exact h
  · have e : what = 2 := Int32.toInt_inj.mp (by rw [c]; rfl)
    subst e
    (repeat refine gp_gc [] od_Rf_look rfl rfl ?_)
    exact h
  · have e : what = 3 := Int32.toInt_inj.mp (by rw [c]; rfl)
    subst e
    (repeat refine gp_gc [] od_Rf_look rfl rfl ?_)
    exact h
  · have e : what = 4 := Int32.toInt_inj.mp (by rw [c]; rfl)
    subst e
    (repeat refine gp_gc [] od_Rf_look rfl rfl ?_)
    exact h
  · have e : what = 5 := Int32.toInt_inj.mp (by rw [c]; rfl)
    subst e
    (repeat refine gp_gc [] od_Rf_look rfl rfl ?_)
    exact h
/-- what is longest behind the marks that are needed -/
def gf_chS (nd : Int32) (T : Nat → Int32) (k : Nat) (n : Int32) : Int32 := if n < (if (nd >>> (nI k &&& 31)) &&& 1 = 1 then T k else 0) then (if (nd >>> (nI k &&& 31)) &&& 1 = 1 then T k else 0) else n
def gf_chV (nd : Int32) (T : Nat → Int32) (m : Nat) : Int32 := gp_it (gf_chS nd T) 0 m 0 + 1
set_option maxRecDepth 100000 in
theorem sp_Rf_chain {m : Int32} {i : Nat} (em : m = nI i) (hi : i < 16) (h : K (some (.int (gf_chV (w 101 i) (w 106) i))) (gv w u q)) : gp_Cal l G (d + 0) m_Rf_chain [.ref 95, .int m] (gv w u q) K := by
  refine gp_enter od_Rf_chain rfl ?_
  have i1 : vp_in m 16 := by rw [em]; exact vp_in_nI hi (by decide)
  have ec : m.toNatClampNeg = i := gp_clamp em (by omega)
  (repeat refine gp_gc [4] od_Rf_chain rfl rfl ?_)
  refine gp_iter (P := fun j n => ∀ x, x = nI j → gp_Go l G d m_Rf_chain K 4 [some (.ref 95), some (.int m), some (.int n), some (.int x), none] [] (gv w u q) 0 0) (gf_chS (w 101 i) (w 106)) i ?_ i 0 0 (by omega) ?_ 0 rfl
  · intro j n hj hp x ex
    have i2 : vp_in x 16 := by rw [ex]; exact vp_in_nI (by omega) (by decide)
    have ex2 : x.toNatClampNeg = j := gp_clamp ex (by omega)
    have hp := hp _ (gp_inc ex)
    unfold gf_chS at hp
    rw [← ex] at hp
    have c : ¬ m ≤ x := by rw [ex, em]; exact nI_ge hj (by omega)
    refine gp_go od_Rf_chain rfl ?_
    (repeat refine gp_gc [4] od_Rf_chain rfl rfl ?_)
    refine gb_ge_f c ?_
    (repeat refine gp_gc [4] od_Rf_chain rfl rfl ?_)
    refine And.intro i1 ?_
    (repeat refine gp_gc [4] od_Rf_chain rfl rfl ?_)
    rw [ec]
    by_cases c2 : (w 101 i >>> (x &&& 31)) &&& 1 = 1
    · rw [if_pos c2] at hp
      refine gb_ne_f c2 ?_
      (repeat refine gp_gc [4] od_Rf_chain rfl rfl ?_)
      refine And.intro i2 ?_
      (repeat refine gp_gc [4] od_Rf_chain rfl rfl ?_)
      rw [ex2]
      by_cases c3 : n < w 106 j
      · rw [if_pos c3] at hp
        refine gb_le_f' c3 ?_
        (repeat refine gp_gc [4] od_Rf_chain rfl rfl ?_)
        refine gp_drop 4 ?_
        exact hp
      · rw [if_neg c3] at hp
        refine gb_le_t' c3 ?_
        (repeat refine gp_gc [4] od_Rf_chain rfl rfl ?_)
        refine gp_drop 4 ?_
        exact hp
    · rw [if_neg c2] at hp
      refine gb_ne_t c2 ?_
      (repeat refine gp_gc [4] od_Rf_chain rfl rfl ?_)
      by_cases c3 : n < 0
      · rw [if_pos c3] at hp
        refine gb_le_f' c3 ?_
        (repeat refine gp_gc [4] od_Rf_chain rfl rfl ?_)
        refine gp_drop 4 ?_
        exact hp
      · rw [if_neg c3] at hp
        refine gb_le_t' c3 ?_
        (repeat refine gp_gc [4] od_Rf_chain rfl rfl ?_)
        refine gp_drop 4 ?_
        exact hp
  · intro x ex
    refine gp_go od_Rf_chain rfl ?_
    (repeat refine gp_gc [4] od_Rf_chain rfl rfl ?_)
    refine And.intro (fun c => ?_) (fun c => ?_)
    · (repeat refine gp_gc [4] od_Rf_chain rfl rfl ?_)
      exact h
    · rw [ex, em] at c
      exact absurd (Int32.le_refl _) c

end
