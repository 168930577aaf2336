section
variable {l : Launch} {G : gp_G} {d : Nat} {w : Nat → Nat → Int32} {u : Int64 × (Nat → Int64)} {q : Nat → Nat} {K : Option Value → gp_H → Prop}
/-! ===== the reference's methods: what may be taken ===== -/
def gz_R (ms tk : Nat → Nat) : Nat → Int32
  | 0 => 0
  | i + 1 => gz_R ms tk i ||| (if tk i = 1 then 1 <<< (nI (ms i) &&& 31) else 0)
def gf_thing (w : Nat → Nat → Int32) (m t : Nat) : Int32 := if t = 1 then w 97 m else w 103 (2 * m + t - 2)
def gz_tw (w : Nat → Nat → Int32) (ms tk : Nat → Nat) (x : Int32) : Nat → Bool
  | 0 => false
  | j + 1 => gz_tw w ms tk x j || (decide (0 < tk j) && decide (gf_thing w (ms j) (tk j) = x))
def gf_seen (w : Nat → Nat → Int32) (kn m : Nat) : Prop := w 100 m &&& (w 107 kn ^^^ -1) = 0 ∧ 0 < gf_left w (nI m) (w 95 1)
def gf_can (w : Nat → Nat → Int32) (kn : Nat) (ms : Nat → Nat) (i t : Nat) (tk : Nat → Nat) : Prop := t = 0 ∨ (gf_seen w kn (ms i) ∧ (1 < t → ¬ w 103 (2 * ms i + t - 2) = -1) ∧ (t = 1 → w 101 (ms i) &&& (gz_R ms tk i ^^^ -1) = 0 ∧ w 102 (ms i) &&& (w 108 kn ^^^ -1) = 0))
set_option maxRecDepth 100000 in
theorem sp_Rf_canTake {kn n i t : Nat} {ms tk : Nat → Nat} (hk : kn < 7) (ek : w 95 46 = nI kn) (hm : gf_ms w n ms) (hn : n ≤ 10) (hi : i < n) (ht : t < 4) (ht4 : ∀ j, j < i → w 124 j = nI (tk j) ∧ tk j < 4) (h1 : gf_can w kn ms i t tk → K (some (.int 1)) (gv w u q)) (h0 : ¬ gf_can w kn ms i t tk → K (some (.int 0)) (gv w u q)) : gp_Cal l G (d + 3) m_Rf_canTake [.ref 95, .int (nI i), .int (nI t)] (gv w u q) K := by
  refine gp_enter od_Rf_canTake rfl ?_
  obtain ⟨m1, m2, m3⟩ := hm.2 i hi
  have ci : (nI i).toNatClampNeg = i := nI_clamp (by omega)
  have ck : (w 95 46).toNatClampNeg = kn := by rw [ek]; exact nI_clamp (by omega)
  have cm : (nI (ms i)).toNatClampNeg = ms i := nI_clamp (by omega)
  have im : vp_in (nI (ms i)) 16 := vp_in_nI m2 (by decide)
  have ik : vp_in (w 96 (nI (ms i)).toNatClampNeg) 7 := by rw [cm]; exact m3
  have ikn : vp_in (w 95 46) 7 := by rw [ek]; exact vp_in_nI hk (by decide)
  have em : w 105 (nI i).toNatClampNeg = nI (ms i) := by rw [ci]; exact m1
  (repeat refine gp_gc [64] od_Rf_canTake rfl rfl ?_)
  refine And.intro (vp_in_nI (by omega) (by decide)) ?_
  (repeat refine gp_gc [64] od_Rf_canTake rfl rfl ?_)
  rw [em]
  by_cases b0 : t = 0
  · subst b0
    refine gb1_ne_f rfl ?_
    (repeat refine gp_gc [64] od_Rf_canTake rfl rfl ?_)
    exact And.intro (Or.inr rfl) (h1 (Or.inl rfl))
  refine gb1_ne_t (nI_ne0 (Nat.pos_of_ne_zero b0) (by omega)) ?_
  (repeat refine gp_gc [64] od_Rf_canTake rfl rfl ?_)
  refine sp_Rf_canSee (d := d) ikn im ik (fun s1 s2 => ?_) (fun b => ?_)
  rotate_left
  · rw [cm, ck] at b
    (repeat refine gp_gc [64] od_Rf_canTake rfl rfl ?_)
    refine gb1_ne_f rfl ?_
    (repeat refine gp_gc [64] od_Rf_canTake rfl rfl ?_)
    exact And.intro (Or.inl rfl) (h0 (fun z => z.elim b0 (fun z => b z.1)))
  rw [cm, ck] at s1
  (repeat refine gp_gc [64] od_Rf_canTake rfl rfl ?_)
  refine gb1_ne_t (by decide) ?_
  (repeat refine gp_gc [64] od_Rf_canTake rfl rfl ?_)
  by_cases b1 : 1 < t
  · refine gb_le_f (nI_ge b1 (by omega)) ?_
    (repeat refine gp_gc [64] od_Rf_canTake rfl rfl ?_)
    have ex : 2 * nI (ms i) + nI t - 2 = nI (2 * ms i + t - 2) := by
      show nI 2 * nI (ms i) + nI t - nI 2 = _
      rw [pk_mul, nI_add, pk_sub (by omega)]
    have ixx : vp_in (2 * nI (ms i) + nI t - 2) 32 := by rw [ex]; exact vp_in_nI (by omega) (by decide)
    have cx : (2 * nI (ms i) + nI t - 2).toNatClampNeg = 2 * ms i + t - 2 := by rw [ex]; exact nI_clamp (by omega)
    refine And.intro ixx ?_
    (repeat refine gp_gc [64] od_Rf_canTake rfl rfl ?_)
    by_cases b2 : w 103 (2 * nI (ms i) + nI t - 2).toNatClampNeg = -1
    · refine gb_eq_t b2 ?_
      (repeat refine gp_gc [64] od_Rf_canTake rfl rfl ?_)
      rw [cx] at b2
      exact And.intro (Or.inl rfl) (h0 (fun z => z.elim b0 (fun z => z.2.1 b1 b2)))
    · refine gb_eq_f b2 ?_
      (repeat refine gp_gc [64] od_Rf_canTake rfl rfl ?_)
      rw [cx] at b2
      exact And.intro (Or.inr rfl) (h1 (Or.inr ⟨⟨s1, s2⟩, fun _ => b2, fun z => by omega⟩))
  obtain rfl : t = 1 := by omega
  refine gb_le_t (by decide) ?_
  (repeat refine gp_gc [64] od_Rf_canTake rfl rfl ?_)
  have key : ∀ (r j : Nat), j + r = i → gp_Go l G (d + 3) m_Rf_canTake K 64 [some (.ref 95), some (.int (nI i)), some (.int (nI 1)), some (.int (nI (ms i))), some (.int (gz_R ms tk j)), some (.int (nI j))] [] (gv w u q) 0 0 := by
    intro r
    induction r with
    | zero =>
      intro j e
      obtain rfl : j = i := by omega
      refine gp_go od_Rf_canTake rfl ?_
      (repeat refine gp_gc [64] od_Rf_canTake rfl rfl ?_)
      refine gb_ge_t (Int32.le_refl _) ?_
      (repeat refine gp_gc [64] od_Rf_canTake rfl rfl ?_)
      refine And.intro im ?_
      (repeat refine gp_gc [64] od_Rf_canTake rfl rfl ?_)
      rw [cm]
      by_cases b4 : w 101 (ms j) &&& (gz_R ms tk j ^^^ -1) = 0
      rotate_left
      · refine gb1_ne_t b4 ?_
        (repeat refine gp_gc [64] od_Rf_canTake rfl rfl ?_)
        exact And.intro (Or.inl rfl) (h0 (fun z => z.elim b0 (fun z => b4 (z.2.2 rfl).1)))
      refine gb1_ne_f b4 ?_
      (repeat refine gp_gc [64] od_Rf_canTake rfl rfl ?_)
      refine And.intro im ?_
      (repeat refine gp_gc [64] od_Rf_canTake rfl rfl ?_)
      refine And.intro ikn ?_
      (repeat refine gp_gc [64] od_Rf_canTake rfl rfl ?_)
      rw [cm, ck]
      by_cases b5 : w 102 (ms j) &&& (w 108 kn ^^^ -1) = 0
      · refine gb1_ne_f b5 ?_
        (repeat refine gp_gc [64] od_Rf_canTake rfl rfl ?_)
        exact And.intro (Or.inr rfl) (h1 (Or.inr ⟨⟨s1, s2⟩, fun z => by omega, fun _ => ⟨b4, b5⟩⟩))
      · refine gb1_ne_t b5 ?_
        (repeat refine gp_gc [64] od_Rf_canTake rfl rfl ?_)
        exact And.intro (Or.inl rfl) (h0 (fun z => z.elim b0 (fun z => b5 (z.2.2 rfl).2)))
    | succ r ih =>
      intro j e
      have ih := ih (j + 1) (by omega)
      unfold gz_R at ih
      obtain ⟨t1, t2⟩ := ht4 j (by omega)
      obtain ⟨p1, p2, _⟩ := hm.2 j (by omega)
      have cj : (nI j).toNatClampNeg = j := nI_clamp (by omega)
      have ij : vp_in (nI j) 16 := vp_in_nI (by omega) (by decide)
      have ij2 : vp_in (nI j) 10 := vp_in_nI (by omega) (by decide)
      refine gp_go od_Rf_canTake rfl ?_
      (repeat refine gp_gc [64] od_Rf_canTake rfl rfl ?_)
      refine gb_ge_f (nI_ge (by omega) (by omega)) ?_
      (repeat refine gp_gc [64] od_Rf_canTake rfl rfl ?_)
      refine And.intro ij2 ?_
      (repeat refine gp_gc [64] od_Rf_canTake rfl rfl ?_)
      rw [cj, t1]
      by_cases b : tk j = 1
      · rw [if_pos b] at ih
        refine gb_ne_f (show nI (tk j) = nI 1 by rw [b]) ?_
        (repeat refine gp_gc [64] od_Rf_canTake rfl rfl ?_)
        refine And.intro ij ?_
        (repeat refine gp_gc [64] od_Rf_canTake rfl rfl ?_)
        rw [cj, p1, gp_inc (i := j) rfl]
        exact ih
      · rw [if_neg b] at ih
        refine gb_ne_t (fun z => b ((nI_eq (b := 1) (by omega) (by decide)).mp z)) ?_
        (repeat refine gp_gc [64] od_Rf_canTake rfl rfl ?_)
        rw [gp_inc (i := j) rfl]
        exact ih
  exact key i 0 (by omega)
theorem gz_tw_t {w : Nat → Nat → Int32} {ms tk : Nat → Nat} {x : Int32} : ∀ {i j : Nat}, j < i → 0 < tk j → gf_thing w (ms j) (tk j) = x → gz_tw w ms tk x i = true
  | 0, j, h, _, _ => by omega
  | i + 1, j, h, h1, h2 => by
    unfold gz_tw
    by_cases e : j = i
    · subst e
      simp [h1, h2]
    · simp [gz_tw_t (i := i) (j := j) (by omega) h1 h2]
set_option maxRecDepth 100000 in
theorem sp_Rf_isTwice {n i t : Nat} {ms tk : Nat → Nat} (hm : gf_ms w n ms) (hn : n ≤ 10) (hi : i < n) (ht : t < 4) (ht4 : ∀ j, j < i → w 124 j = nI (tk j) ∧ tk j < 4) (h1 : 0 < t → gz_tw w ms tk (gf_thing w (ms i) t) i = true → K (some (.int 1)) (gv w u q)) (h0 : ¬ (0 < t ∧ gz_tw w ms tk (gf_thing w (ms i) t) i = true) → K (some (.int 0)) (gv w u q)) : gp_Cal l G (d + 1) m_Rf_isTwice [.ref 95, .int (nI i), .int (nI t)] (gv w u q) K := by
  refine gp_enter od_Rf_isTwice rfl ?_
  obtain ⟨m1, m2, m3⟩ := hm.2 i hi
  have ci : (nI i).toNatClampNeg = i := nI_clamp (by omega)
  have cm : (nI (ms i)).toNatClampNeg = ms i := nI_clamp (by omega)
  have im : vp_in (nI (ms i)) 16 := vp_in_nI m2 (by decide)
  have em : w 105 (nI i).toNatClampNeg = nI (ms i) := by rw [ci]; exact m1
  have hthing : ∀ (m t : Nat) (x : Int32), m < 16 → 0 < t → t < 4 → (if nI t = 1 then w 97 (nI m).toNatClampNeg else w 103 (2 * nI m + nI t - 2).toNatClampNeg) = gf_thing w m t := by
    intro m t x hm ht0 ht
    have ex : 2 * nI m + nI t - 2 = nI (2 * m + t - 2) ∨ t = 1 := by
      by_cases b : t = 1
      · exact Or.inr b
      · refine Or.inl ?_
        show nI 2 * nI m + nI t - nI 2 = _
        rw [pk_mul, nI_add, pk_sub (by omega)]
    unfold gf_thing
    by_cases b : t = 1
    · have b' : nI t = 1 := by rw [b]; rfl
      rw [if_pos b, if_pos b', nI_clamp (by omega)]
    · have b' : ¬ nI t = 1 := fun z => b ((nI_eq (b := 1) (by omega) (by decide)).mp z)
      rw [if_neg b, if_neg b', ex.resolve_right b, nI_clamp (by omega)]
  have hvp : ∀ (m t : Nat), m < 16 → 0 < t → t < 4 → ¬ nI t = 1 → vp_in (2 * nI m + nI t - 2) 32 := by
    intro m t hm ht0 ht b
    have hb : ¬ t = 1 := fun z => b (by rw [z]; rfl)
    have ex : 2 * nI m + nI t - 2 = nI (2 * m + t - 2) := by
      show nI 2 * nI m + nI t - nI 2 = _
      rw [pk_mul, nI_add, pk_sub (by omega)]
    rw [ex]
    exact vp_in_nI (by omega) (by decide)
  (repeat refine gp_gc [2] od_Rf_isTwice rfl rfl ?_)
  have key : ∀ (r j : Nat), j + r = i → gz_tw w ms tk (gf_thing w (ms i) t) j = false → gp_Go l G (d + 1) m_Rf_isTwice K 2 [some (.ref 95), some (.int (nI i)), some (.int (nI t)), some (.int (nI j))] [] (gv w u q) 0 0 := by
    intro r
    induction r with
    | zero =>
      intro j e hf
      obtain rfl : j = i := by omega
      refine gp_go od_Rf_isTwice rfl ?_
      (repeat refine gp_gc [2] od_Rf_isTwice rfl rfl ?_)
      refine gb_ge_t (Int32.le_refl _) ?_
      (repeat refine gp_gc [2] od_Rf_isTwice rfl rfl ?_)
      exact And.intro (Or.inl rfl) (h0 (fun z => by rw [hf] at z; exact absurd z.2 (by decide)))
    | succ r ih =>
      intro j e hf
      obtain ⟨t1, t2⟩ := ht4 j (by omega)
      obtain ⟨p1, p2, _⟩ := hm.2 j (by omega)
      have cj : (nI j).toNatClampNeg = j := nI_clamp (by omega)
      have ij : vp_in (nI j) 16 := vp_in_nI (by omega) (by decide)
      have ij2 : vp_in (nI j) 10 := vp_in_nI (by omega) (by decide)
      refine gp_go od_Rf_isTwice rfl ?_
      (repeat refine gp_gc [2] od_Rf_isTwice rfl rfl ?_)
      refine gb_ge_f (nI_ge (by omega) (by omega)) ?_
      (repeat refine gp_gc [2] od_Rf_isTwice rfl rfl ?_)
      by_cases b0 : t = 0
      · subst b0
        refine gb1_le_t (by decide) ?_
        (repeat refine gp_gc [2] od_Rf_isTwice rfl rfl ?_)
        exact And.intro (Or.inl rfl) (h0 (fun z => absurd z.1 (by omega)))
      refine gb1_le_f' (show 0 < nI t from nI_lt (a := 0) (Nat.pos_of_ne_zero b0) (by omega)) ?_
      (repeat refine gp_gc [2] od_Rf_isTwice rfl rfl ?_)
      refine And.intro ij2 ?_
      (repeat refine gp_gc [2] od_Rf_isTwice rfl rfl ?_)
      rw [cj, t1]
      by_cases b1 : tk j = 0
      · refine gb1_le_t (by rw [b1]; decide) ?_
        (repeat refine gp_gc [2] od_Rf_isTwice rfl rfl ?_)
        rw [gp_inc (i := j) rfl]
        refine ih (j + 1) (by omega) ?_
        unfold gz_tw
        simp [hf, b1]
      refine gb1_le_f' (show 0 < nI (tk j) from nI_lt (a := 0) (Nat.pos_of_ne_zero b1) (by omega)) ?_
      (repeat refine gp_gc [2] od_Rf_isTwice rfl rfl ?_)
      refine And.intro ij ?_
      (repeat refine gp_gc [2] od_Rf_isTwice rfl rfl ?_)
      refine And.intro ij2 ?_
      (repeat refine gp_gc [2] od_Rf_isTwice rfl rfl ?_)
      rw [cj, t1, p1]
      refine sp_Rf_thing (d := d) (vp_in_nI p2 (by decide)) (hvp _ _ p2 (Nat.pos_of_ne_zero b1) t2) ?_
      rw [hthing _ _ 0 p2 (Nat.pos_of_ne_zero b1) t2]
      (repeat refine gp_gc [2] od_Rf_isTwice rfl rfl ?_)
      refine And.intro (vp_in_nI (by omega) (by decide)) ?_
      (repeat refine gp_gc [2] od_Rf_isTwice rfl rfl ?_)
      rw [em]
      refine sp_Rf_thing (d := d) im (hvp _ _ m2 (Nat.pos_of_ne_zero b0) ht) ?_
      rw [hthing _ _ 0 m2 (Nat.pos_of_ne_zero b0) ht]
      (repeat refine gp_gc [2] od_Rf_isTwice rfl rfl ?_)
      by_cases b2 : gf_thing w (ms j) (tk j) = gf_thing w (ms i) t
      · refine gb_ne_f b2 ?_
        (repeat refine gp_gc [2] od_Rf_isTwice rfl rfl ?_)
        exact And.intro (Or.inr rfl) (h1 (Nat.pos_of_ne_zero b0) (gz_tw_t (show j < i by omega) (Nat.pos_of_ne_zero b1) b2))
      · refine gb_ne_t b2 ?_
        (repeat refine gp_gc [2] od_Rf_isTwice rfl rfl ?_)
        rw [gp_inc (i := j) rfl]
        refine ih (j + 1) (by omega) ?_
        unfold gz_tw
        simp [hf, b2]
  exact key i 0 (by omega) rfl

end
