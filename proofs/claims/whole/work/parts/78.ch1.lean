section
variable {l : Launch} {G : gp_G} {d : Nat} {w : Nat → Nat → Int32} {u : Int64 × (Nat → Int64)} {q : Nat → Nat} {K : Option Value → gp_H → Prop}
/-! ===== the class's chooser: what a set tells, and how it is judged ===== -/
def gB_s (ab : Int32) (nd th : Nat → Int32) (s m : Nat) (p : Int32 × Int32) : Int32 × Int32 := if s.testBit m = true ∧ gb ab m = true ∧ nd m &&& (p.1 ^^^ -1) = 0 then (p.1 ||| 1 <<< (nI m &&& 31), p.2 ||| 1 <<< (th m &&& 31)) else p
def gB_p (ab : Int32) (nd th : Nat → Int32) (s k : Nat) : Int32 × Int32 := gp_it (gB_s ab nd th s) 0 k (0, 0)
theorem gB_p_s (ab : Int32) (nd th : Nat → Int32) (s k : Nat) : gB_p ab nd th s (k + 1) = gB_s ab nd th s k (gB_p ab nd th s k) := by
  unfold gB_p
  rw [gp_it_snoc, Nat.zero_add]
theorem gB_p_congr {ab : Int32} {nd th : Nat → Int32} {s s' : Nat} : ∀ {k : Nat}, (∀ i, i < k → s.testBit i = s'.testBit i) → gB_p ab nd th s k = gB_p ab nd th s' k
  | 0, _ => rfl
  | k + 1, h => by
    rw [gB_p_s, gB_p_s, gB_p_congr (fun i hi => h i (by omega))]
    unfold gB_s
    rw [h k (by omega)]
theorem gB_p_up {ab : Int32} {nd th : Nat → Int32} {s m : Nat} (hs : s < 2 ^ m) : ∀ j, gB_p ab nd th s (m + j) = gB_p ab nd th s m
  | 0 => rfl
  | j + 1 => by
    rw [← Nat.add_assoc, gB_p_s, gB_p_up hs j]
    have e : s.testBit (m + j) = false := Nat.testBit_lt_two_pow (Nat.lt_of_lt_of_le hs (Nat.pow_le_pow_right (by decide) (by omega)))
    exact if_neg (fun z => by rw [e] at z; exact absurd z.1 (by decide))
def gB_f (tt : Nat → Int32) (A : Nat) : Int32 × Int32 := gp_it (fun j p => (p.1 + gf_count (tt j), if gf_count (tt j) < p.2 then gf_count (tt j) else p.2)) 0 A (0, 16)
theorem gB_p_16 {ab : Int32} {nd th : Nat → Int32} {s : Nat} : ∀ {k : Nat}, k ≤ 16 → (∀ i, i < k → ∃ t : Nat, t < 16 ∧ th i = nI t) → ∀ b, b < 32 → gb (gB_p ab nd th s k).2 b = true → b < 16
  | 0, _, _, b, hb, hg => by
    have hg : gb 0 b = true := hg
    rw [gb_0] at hg
    exact absurd hg (by decide)
  | k + 1, hk, ht, b, hb, hg => by
    have ih := gB_p_16 (ab := ab) (nd := nd) (th := th) (s := s) (k := k) (by omega) (fun i hi => ht i (by omega)) b hb
    rw [gB_p_s] at hg
    unfold gB_s at hg
    by_cases c : s.testBit k = true ∧ gb ab k = true ∧ nd k &&& ((gB_p ab nd th s k).1 ^^^ -1) = 0
    · rw [if_pos c] at hg
      have hg : gb ((gB_p ab nd th s k).2 ||| 1 <<< (th k &&& 31)) b = true := hg
      rw [gb_or, Bool.or_eq_true] at hg
      rcases hg with hg | hg
      · exact ih hg
      · obtain ⟨t, h16, e⟩ := ht k (by omega)
        rw [e, gb_1 (by omega) hb] at hg
        have := of_decide_eq_true hg
        omega
    · rw [if_neg c] at hg
      exact ih hg
def gC (w W : Nat → Nat → Int32) : Prop := ∀ b, b ≠ 72 → b ≠ 73 → b ≠ 74 → b ≠ 75 → W b = w b
theorem gC_r (w : Nat → Nat → Int32) : gC w w := fun _ _ _ _ _ => rfl
theorem gC_w {w W : Nat → Nat → Int32} {a k : Nat} {x : Int32} (h : gC w W) (ha : 72 ≤ a ∧ a ≤ 75) : gC w (gw W a k x) := fun b h1 h2 h3 h4 => by
  rw [gw_ne (by omega)]
  exact h b h1 h2 h3 h4
theorem gC_R {w W : Nat → Nat → Int32} (h : gC w W) : gs_R w W := by
  refine ⟨fun b hb h83 h95 => ?_, fun k _ => by rw [h 95 (by decide) (by decide) (by decide) (by decide)], by rw [h 83 (by decide) (by decide) (by decide) (by decide)]⟩
  refine h b ?_ ?_ ?_ ?_ <;> (intro z; rw [z] at hb; exact absurd hb (by decide))
section
variable {A t bu c : Nat} {wo : Int32} {ab : Nat → Int32} {tt : Nat → Int32}
/-- what stays while sets are tried -/
def gB_F (w W : Nat → Nat → Int32) (A t bu : Nat) (wo : Int32) (ab : Nat → Int32) : Prop := gC w W ∧ W 72 5 = nI A ∧ W 72 6 = nI t ∧ W 72 7 = nI bu ∧ W 72 8 = wo ∧ ∀ j, j < A → W 73 j = ab j
set_option maxRecDepth 100000 in
theorem sp_Ch_scoreOf {x : Int32} (eA : w 72 5 = nI A) (hA : A ≤ 6) (ew : w 72 8 = wo) (ex : x = nI c) (hc : c ≤ 12) (htt : ∀ j, j < A → w 75 (6 * c + j) = tt j ∧ ∃ a : Nat, a < 65536 ∧ tt j = nI a) (h : K (some (.int (if wo = 0 then (gB_f tt A).1 else (gB_f tt A).2))) (gv w u q)) : gp_Cal l G (d + 1) m_Ch_scoreOf [.ref 72, .int x] (gv w u q) K := by
  refine gp_enter od_Ch_scoreOf rfl ?_
  subst ex
  have loop : ∀ (r j : Nat) (p : Int32 × Int32), j + r = A → K (some (.int (if wo = 0 then (gp_it (fun j p => (p.1 + gf_count (tt j), if gf_count (tt j) < p.2 then gf_count (tt j) else p.2)) j r p).1 else (gp_it (fun j p => (p.1 + gf_count (tt j), if gf_count (tt j) < p.2 then gf_count (tt j) else p.2)) j r p).2))) (gv w u q) → gp_Go l G (d + 1) m_Ch_scoreOf K 8 [some (.ref 72), some (.int (nI c)), some (.int p.1), some (.int p.2), some (.int (nI j)), none] [] (gv w u q) 0 0 := by
    intro r
    induction r with
    | zero =>
      intro j p hj hh
      have ej : j = A := by omega
      have hh : K (some (.int (if wo = 0 then p.1 else p.2))) (gv w u q) := hh
      refine gp_go od_Ch_scoreOf rfl ?_
      (repeat refine gp_gc [8] od_Ch_scoreOf rfl rfl ?_)
      refine gb_ge_t (by rw [eA, ej]; exact Int32.le_refl _) ?_
      (repeat refine gp_gc [8] od_Ch_scoreOf rfl rfl ?_)
      rw [ew]
      by_cases z : wo = 0
      · rw [if_pos z] at hh
        refine gb1_eq_t z ?_
        (repeat refine gp_gc [8] od_Ch_scoreOf rfl rfl ?_)
        exact hh
      · rw [if_neg z] at hh
        refine gb1_eq_f z ?_
        (repeat refine gp_gc [8] od_Ch_scoreOf rfl rfl ?_)
        exact hh
    | succ r ih =>
      intro j p hj hh
      have inc : nI j + Int32.ofInt 1 = nI (j + 1) := gp_inc rfl
      have hx : nI c * (Int8.ofInt 6).toInt32 + nI j = nI (6 * c + j) := by
        show nI c * nI 6 + nI j = _
        rw [pk_mul, nI_add]
        congr 1
        omega
      obtain ⟨e1, a, ha, ea⟩ := htt j (by omega)
      have cx : (nI (6 * c + j)).toNatClampNeg = 6 * c + j := nI_clamp (by omega)
      refine gp_go od_Ch_scoreOf rfl ?_
      (repeat refine gp_gc [8] od_Ch_scoreOf rfl rfl ?_)
      refine gb_ge_f (by rw [eA]; exact nI_ge (by omega) (by omega)) ?_
      (repeat refine gp_gc [8] od_Ch_scoreOf rfl rfl ?_)
      rw [hx]
      refine And.intro (vp_in_nI (by omega) (by decide)) ?_
      rw [cx, e1]
      (repeat refine gp_gc [8] od_Ch_scoreOf rfl rfl ?_)
      refine sp_Ji_bitCount (d := d) ea ha ?_
      (repeat refine gp_gc [8] od_Ch_scoreOf rfl rfl ?_)
      rw [inc]
      refine gp_drop 5 ?_
      exact ih (j + 1) (p.1 + gf_count (tt j), if gf_count (tt j) < p.2 then gf_count (tt j) else p.2) (by omega) hh
  (repeat refine gp_gc [8] od_Ch_scoreOf rfl rfl ?_)
  exact loop A 0 (0, 16) (by omega) h
abbrev gB_T : Type := Int32 × Int32 × Int32
def gB_j (sc co s : Int32) (b : gB_T) : gB_T := if b.1 < sc ∨ (sc = b.1 ∧ (co < b.2.1 ∨ (co = b.2.1 ∧ s < b.2.2))) then (sc, co, s) else b
def gB_S (W : Nat → Nat → Int32) (b : gB_T) : Prop := W 72 11 = b.1 ∧ W 72 9 = b.2.1 ∧ W 72 10 = b.2.2
set_option maxRecDepth 100000 in
theorem sp_Ch_judge {x s co : Int32} {b : gB_T} (eA : w 72 5 = nI A) (hA : A ≤ 6) (ew : w 72 8 = wo) (ex : x = nI c) (hc : c ≤ 12) (htt : ∀ j, j < A → w 75 (6 * c + j) = tt j ∧ ∃ a : Nat, a < 65536 ∧ tt j = nI a) (hS : gB_S w b) (h : ∀ W, gB_S W (gB_j (if wo = 0 then (gB_f tt A).1 else (gB_f tt A).2) co s b) → (∀ a, a ≠ 72 → W a = w a) → (∀ k, k ≠ 9 → k ≠ 10 → k ≠ 11 → W 72 k = w 72 k) → K none (gv W u q)) : gp_Cal l G (d + 2) m_Ch_judge [.ref 72, .int x, .int s, .int co] (gv w u q) K := by
  refine gp_enter od_Ch_judge rfl ?_
  (repeat refine gp_gc [56] od_Ch_judge rfl rfl ?_)
  refine sp_Ch_scoreOf (d := d) eA hA ew ex hc htt ?_
  generalize (if wo = 0 then (gB_f tt A).1 else (gB_f tt A).2) = sc at h ⊢
  obtain ⟨s1, s2, s3⟩ := hS
  unfold gB_j at h
  have yes : (b.1 < sc ∨ (sc = b.1 ∧ (co < b.2.1 ∨ (co = b.2.1 ∧ s < b.2.2)))) → gp_Go l G (d + 2) m_Ch_judge K 56 [some (.ref 72), some (.int x), some (.int s), some (.int co), some (.int sc), some (.int 1)] [] (gv w u q) 0 0 := by
    intro z
    rw [if_pos z] at h
    refine gp_go od_Ch_judge rfl ?_
    (repeat refine gp_gc [56] od_Ch_judge rfl rfl ?_)
    refine gb1_eq_f (by decide) ?_
    (repeat refine gp_gc [56] od_Ch_judge rfl rfl ?_)
    refine h (gw (gw (gw w 72 11 sc) 72 9 co) 72 10 s) ⟨rfl, rfl, rfl⟩ (fun a ha => by rw [gw_ne ha, gw_ne ha, gw_ne ha]) (fun k k1 k2 k3 => by rw [gw_at, if_neg k2, gw_at, if_neg k1, gw_at, if_neg k3])
  have no : ¬ (b.1 < sc ∨ (sc = b.1 ∧ (co < b.2.1 ∨ (co = b.2.1 ∧ s < b.2.2)))) → gp_Go l G (d + 2) m_Ch_judge K 56 [some (.ref 72), some (.int x), some (.int s), some (.int co), some (.int sc), some (.int 0)] [] (gv w u q) 0 0 := by
    intro z
    rw [if_neg z] at h
    refine gp_go od_Ch_judge rfl ?_
    (repeat refine gp_gc [56] od_Ch_judge rfl rfl ?_)
    refine gb1_eq_t rfl ?_
    (repeat refine gp_gc [56] od_Ch_judge rfl rfl ?_)
    exact h w ⟨s1, s2, s3⟩ (fun _ _ => rfl) (fun _ _ _ _ => rfl)
  (repeat refine gp_gc [56] od_Ch_judge rfl rfl ?_)
  rw [s1]
  by_cases c1 : b.1 < sc
  · refine gb_gt_t c1 ?_
    (repeat refine gp_gc [56] od_Ch_judge rfl rfl ?_)
    exact yes (Or.inl c1)
  refine gb_gt_f c1 ?_
  (repeat refine gp_gc [56] od_Ch_judge rfl rfl ?_)
  rw [s1]
  by_cases c2 : sc = b.1
  rotate_left
  · refine gb_ne_t c2 ?_
    (repeat refine gp_gc [56] od_Ch_judge rfl rfl ?_)
    exact no (fun z => z.elim c1 (fun z => c2 z.1))
  refine gb_ne_f c2 ?_
  (repeat refine gp_gc [56] od_Ch_judge rfl rfl ?_)
  rw [s2]
  by_cases c3 : co < b.2.1
  · refine gb_lt_t c3 ?_
    (repeat refine gp_gc [56] od_Ch_judge rfl rfl ?_)
    exact yes (Or.inr ⟨c2, Or.inl c3⟩)
  refine gb_lt_f c3 ?_
  (repeat refine gp_gc [56] od_Ch_judge rfl rfl ?_)
  rw [s2]
  by_cases c4 : co = b.2.1
  rotate_left
  · refine gb_ne_t c4 ?_
    (repeat refine gp_gc [56] od_Ch_judge rfl rfl ?_)
    exact no (fun z => z.elim c1 (fun z => z.2.elim c3 (fun z => c4 z.1)))
  refine gb_ne_f c4 ?_
  (repeat refine gp_gc [56] od_Ch_judge rfl rfl ?_)
  rw [s3]
  by_cases c5 : s < b.2.2
  · refine gb_ge_f' c5 ?_
    (repeat refine gp_gc [56] od_Ch_judge rfl rfl ?_)
    exact yes (Or.inr ⟨c2, Or.inr ⟨c4, c5⟩⟩)
  · refine gb_ge_t' c5 ?_
    (repeat refine gp_gc [56] od_Ch_judge rfl rfl ?_)
    exact no (fun z => z.elim c1 (fun z => z.2.elim c3 (fun z => c5 z.2)))
end

end
