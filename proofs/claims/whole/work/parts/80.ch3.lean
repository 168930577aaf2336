section
variable {l : Launch} {G : gp_G} {d : Nat} {w : Nat → Nat → Int32} {u : Int64 × (Nat → Int64)} {q : Nat → Nat} {K : Option Value → gp_H → Prop}
/-! ===== the class's chooser: grow, findBest ===== -/
section
variable {A t bu : Nat} {wo : Int32} {ab nd th : Nat → Int32} {co : Nat → Nat}
noncomputable def gB_g (A : Nat) (ab nd th : Nat → Int32) (s m : Nat) : Bool := @decide (∃ j, j < A ∧ gb (ab j) m = true ∧ nd m &&& ((gB_p (ab j) nd th s m).1 ^^^ -1) = 0) (Classical.propDecidable _)
theorem gB_g_i {A : Nat} {ab nd th : Nat → Int32} {s m : Nat} : gB_g A ab nd th s m = true ↔ ∃ j, j < A ∧ gb (ab j) m = true ∧ nd m &&& ((gB_p (ab j) nd th s m).1 ^^^ -1) = 0 := @decide_eq_true_iff _ (Classical.propDecidable _)
noncomputable def gB_C (A : Nat) (ab nd th : Nat → Int32) (co : Nat → Nat) (bu : Nat) : Nat → Nat → Nat → Nat → List (Nat × Nat)
  | 0, _, _, _ => []
  | f + 1, m, s, cost => (if (decide (cost + co m ≤ bu) && gB_g A ab nd th s m) = true then (2 ^ m + s, cost + co m) :: gB_C A ab nd th co bu f (m + 1) (2 ^ m + s) (cost + co m) else []) ++ gB_C A ab nd th co bu f (m + 1) s cost
def gB_w (A t : Nat) (ab nd th : Nat → Int32) (wo : Int32) (s : Nat) : Int32 := if wo = 0 then (gB_f (fun j => (gB_p (ab j) nd th s t).2) A).1 else (gB_f (fun j => (gB_p (ab j) nd th s t).2) A).2
def gB_fo (A t : Nat) (ab nd th : Nat → Int32) (wo : Int32) (b : gB_T) (L : List (Nat × Nat)) : gB_T := L.foldl (fun b e => gB_j (gB_w A t ab nd th wo e.1) (nI e.2) (nI e.1) b) b
theorem gB_fo_a {b : gB_T} {L M : List (Nat × Nat)} : gB_fo A t ab nd th wo (gB_fo A t ab nd th wo b L) M = gB_fo A t ab nd th wo b (L ++ M) := (List.foldl_append).symm
theorem gB_or {m s : Nat} (hm : m < 12) (hs : s < 2 ^ m) : nI s ||| Int32.ofInt 1 <<< (nI m &&& 31) = nI (2 ^ m + s) ∧ 2 ^ m + s < 2 ^ (m + 1) := by
  have e1 : Int32.ofInt 1 <<< (nI m &&& 31) = nI (2 ^ m) := gf_p2 (by omega)
  have p := gf_p2b (t := m) (by omega)
  refine ⟨?_, by rw [Nat.pow_succ]; omega⟩
  rw [e1, gk_or (by omega) (by omega)]
  congr 1
  have e2 := Nat.two_pow_add_eq_or_of_lt hs 1
  rw [Nat.mul_one] at e2
  rw [e2, Nat.or_comm]
theorem gB_tb {m s i : Nat} (hs : s < 2 ^ m) : (2 ^ m + s).testBit m = true ∧ (i < m → (2 ^ m + s).testBit i = s.testBit i) := by
  refine ⟨?_, fun hi => Nat.testBit_two_pow_add_gt hi s⟩
  rw [Nat.testBit_two_pow_add_eq, Nat.testBit_lt_two_pow hs]
  rfl
/-- the rows of level c tell what the set s tells -/
def gB_lv (W : Nat → Nat → Int32) (A : Nat) (ab nd th : Nat → Int32) (c s k : Nat) : Prop := ∀ j, j < A → W 74 (6 * c + j) = (gB_p (ab j) nd th s k).1 ∧ W 75 (6 * c + j) = (gB_p (ab j) nd th s k).2
/-- a walk from a mark on, in one frame -/
def gB_loop (l : Launch) (G : gp_G) (u : Int64 × (Nat → Int64)) (q : Nat → Nat) (w : Nat → Nat → Int32) (A t bu : Nat) (wo : Int32) (ab nd th : Nat → Int32) (co : Nat → Nat) (f : Nat) : Prop := ∀ (d m c s cost : Nat) (fr : Int32) (b : gB_T) (W : Nat → Nat → Int32) (K : Option Value → gp_H → Prop), m + f = t → c ≤ m → s < 2 ^ m → cost ≤ bu → gB_F w W A t bu wo ab → gB_S W b → gB_lv W A ab nd th c s m → (∀ W', gB_F w W' A t bu wo ab → gB_S W' (gB_fo A t ab nd th wo b (gB_C A ab nd th co bu f m s cost)) → (∀ z, z < 6 * c + 6 → W' 74 z = W 74 z ∧ W' 75 z = W 75 z) → K none (gv W' u q)) → gp_Go l G (d + f + 3) m_Ch_grow K 11 [some (.ref 72), some (.int (nI c)), some (.int fr), some (.int (nI s)), some (.int (nI cost)), some (.int (nI m)), none] [] (gv W u q) 0 0
theorem gB_lv_16 {W : Nat → Nat → Int32} {c s m : Nat} (hm : m ≤ t) (ht : t ≤ 12) (hth : ∀ i, i < t → ∃ a : Nat, a < 16 ∧ th i = nI a) (hs : s < 2 ^ m) (hlv : gB_lv W A ab nd th c s m) : ∀ j, j < A → W 75 (6 * c + j) = (gB_p (ab j) nd th s t).2 ∧ ∃ a : Nat, a < 65536 ∧ (gB_p (ab j) nd th s t).2 = nI a := by
  intro j hj
  have e : gB_p (ab j) nd th s t = gB_p (ab j) nd th s m := by
    have := gB_p_up (ab := ab j) (nd := nd) (th := th) hs (t - m)
    rw [show m + (t - m) = t by omega] at this
    exact this
  refine ⟨by rw [e]; exact (hlv j hj).2, gb_16 (gB_p_16 (by omega) hth)⟩
set_option maxRecDepth 100000 in
theorem gB_grow {f : Nat} (hA : A ≤ 6) (ht : t ≤ 12) (hth : ∀ i, i < t → ∃ a : Nat, a < 16 ∧ th i = nI a) (LP : gB_loop l G u q w A t bu wo ab nd th co f) : ∀ (d m c s cost : Nat) (b : gB_T) (W : Nat → Nat → Int32) (K : Option Value → gp_H → Prop), m + f = t → c ≤ m → s < 2 ^ m → cost ≤ bu → gB_F w W A t bu wo ab → gB_S W b → gB_lv W A ab nd th c s m → (∀ W', gB_F w W' A t bu wo ab → gB_S W' (gB_fo A t ab nd th wo b ((s, cost) :: gB_C A ab nd th co bu f m s cost)) → (∀ z, z < 6 * c + 6 → W' 74 z = W 74 z ∧ W' 75 z = W 75 z) → K none (gv W' u q)) → gp_Cal l G (d + f + 3) m_Ch_grow [.ref 72, .int (nI c), .int (nI m), .int (nI s), .int (nI cost)] (gv W u q) K := by
  intro d m c s cost b W K hmf hcm hs hcost hF hS hlv h
  refine gp_enter od_Ch_grow rfl ?_
  (repeat refine gp_gc [11] od_Ch_grow rfl rfl ?_)
  refine sp_Ch_judge (d := d + f) (A := A) (wo := wo) (c := c) (tt := fun j => (gB_p (ab j) nd th s t).2) hF.2.1 hA hF.2.2.2.2.1 rfl (by omega) (gB_lv_16 (by omega) ht hth hs hlv) hS (fun W1 hS1 hW1 h72 => ?_)
  (repeat refine gp_gc [11] od_Ch_grow rfl rfl ?_)
  refine LP d m c s cost (nI m) _ W1 K hmf hcm hs hcost ?_ hS1 (fun j hj => by rw [hW1 74 (by decide), hW1 75 (by decide)]; exact hlv j hj) (fun W' a b' c' => h W' a b' (fun z hz => by have := c' z hz; rw [hW1 74 (by decide), hW1 75 (by decide)] at this; exact this))
  obtain ⟨f1, f2, f3, f4, f5, f6⟩ := hF
  refine ⟨fun b b1 b2 b3 b4 => (hW1 b b1).trans (f1 b b1 b2 b3 b4), ?_, ?_, ?_, ?_, ?_⟩
  · rw [h72 5 (by decide) (by decide) (by decide)]; exact f2
  · rw [h72 6 (by decide) (by decide) (by decide)]; exact f3
  · rw [h72 7 (by decide) (by decide) (by decide)]; exact f4
  · rw [h72 8 (by decide) (by decide) (by decide)]; exact f5
  · rw [hW1 73 (by decide)]; exact f6
set_option maxRecDepth 100000 in
theorem gB_lp (hA : A ≤ 6) (ht : t ≤ 12) (hbu : bu ≤ 9999) (hnd : ∀ i, i < t → w (5 + i) 5 = nd i) (hth' : ∀ i, i < t → w (5 + i) 1 = th i) (hth : ∀ i, i < t → ∃ a : Nat, a < 16 ∧ th i = nI a) (hco : ∀ i, i < t → w (5 + i) 2 = nI (co i) ∧ co i ≤ 99) : ∀ f, gB_loop l G u q w A t bu wo ab nd th co f := by
  intro f
  induction f with
  | zero =>
    intro d m c s cost fr b W K hmf hcm hs hcost hF hS hlv h
    refine gp_go od_Ch_grow rfl ?_
    (repeat refine gp_gc [11] od_Ch_grow rfl rfl ?_)
    refine gb_ge_t (by rw [hF.2.2.1]; exact nI_le (by omega) (by omega)) ?_
    (repeat refine gp_gc [11] od_Ch_grow rfl rfl ?_)
    exact h W hF hS (fun _ _ => ⟨rfl, rfl⟩)
  | succ f ih =>
    intro d m c s cost fr b W K hmf hcm hs hcost hF hS hlv h
    have hm16 : m < 16 := by omega
    have cm : (nI m).toNatClampNeg = m := nI_clamp (by omega)
    have inc : nI m + Int32.ofInt 1 = nI (m + 1) := gp_inc rfl
    have incc : nI c + Int32.ofInt 1 = nI (c + 1) := gp_inc rfl
    have eM : W (5 + m) = w (5 + m) := hF.1 _ (by omega) (by omega) (by omega) (by omega)
    have hcm2 := hco m (by omega)
    -- on with the next mark in this frame
    have nxt : ∀ (W1 : Nat → Nat → Int32) (b1 : gB_T), gB_F w W1 A t bu wo ab → gB_S W1 b1 → (∀ z, z < 6 * c + 6 → W1 74 z = W 74 z ∧ W1 75 z = W 75 z) → b1 = gB_fo A t ab nd th wo b (if (decide (cost + co m ≤ bu) && gB_g A ab nd th s m) = true then (2 ^ m + s, cost + co m) :: gB_C A ab nd th co bu f (m + 1) (2 ^ m + s) (cost + co m) else []) → gp_Go l G (d + (f + 1) + 3) m_Ch_grow K 11 [some (.ref 72), some (.int (nI c)), some (.int fr), some (.int (nI s)), some (.int (nI cost)), some (.int (nI (m + 1))), none] [] (gv W1 u q) 0 0 := by
      intro W1 b1 hF1 hS1 hz eb
      have a := ih (d + 1) (m + 1) c s cost fr b1 W1 K (by omega) (by omega) (by rw [Nat.pow_succ]; omega) hcost hF1 hS1 (fun j hj => by
        have e : gB_p (ab j) nd th s (m + 1) = gB_p (ab j) nd th s m := gB_p_up hs 1
        rw [e, (hz _ (by omega)).1, (hz _ (by omega)).2]
        exact hlv j hj) (fun W' x y z => h W' x (by rw [eb, gB_fo_a] at y; exact y) (fun v hv => by have a1 := z v hv; have a2 := hz v hv; exact ⟨a1.1.trans a2.1, a1.2.trans a2.2⟩))
      rw [show d + 1 + f + 3 = d + (f + 1) + 3 by omega] at a
      exact a
    refine gp_go od_Ch_grow rfl ?_
    (repeat refine gp_gc [11] od_Ch_grow rfl rfl ?_)
    refine gb_ge_f (by rw [hF.2.2.1]; exact nI_ge (by omega) (by omega)) ?_
    (repeat refine gp_gc [11] od_Ch_grow rfl rfl ?_)
    refine gb_ge_f (nI_ge (b := 12) (by omega) (by decide)) ?_
    (repeat refine gp_gc [11] od_Ch_grow rfl rfl ?_)
    refine And.intro (vp_in_nI hm16 (by decide)) ⟨_, rfl, ?_⟩
    rw [cm]
    (repeat refine gp_gc [11] od_Ch_grow rfl rfl ?_)
    refine gs_get (gv_mark hm16) rfl rfl ?_
    rw [eM, hcm2.1]
    (repeat refine gp_gc [11] od_Ch_grow rfl rfl ?_)
    rw [nI_add, hF.2.2.2.1]
    by_cases c1 : cost + co m ≤ bu
    rotate_left
    · refine gb_gt_t (nI_lt (by omega) (by omega)) ?_
      (repeat refine gp_gc [11] od_Ch_grow rfl rfl ?_)
      rw [inc]
      refine gp_drop 6 ?_
      refine nxt W b hF hS (fun _ _ => ⟨rfl, rfl⟩) ?_
      rw [decide_eq_false c1, Bool.false_and, if_neg (by decide)]
      rfl
    refine gb_gt_f (nI_nlt (by omega) (by omega)) ?_
    (repeat refine gp_gc [11] od_Ch_grow rfl rfl ?_)
    refine sp_Ch_gains (d := d + f + 3) (A := A) (c := c) (m := m) (ab := ab) (r := fun j => (gB_p (ab j) nd th s m).1) (tt := fun j => (gB_p (ab j) nd th s m).2) hF.2.1 hA hF.2.2.2.2.2 rfl (by omega) rfl hm16 hlv (fun W1 g hW1 hlow hup hg => ?_)
    have hg2 : g = gB_g A ab nd th s m := by
      rw [Bool.eq_iff_iff, hg, gB_g_i]
      unfold gB_cd
      rw [eM, hnd m (by omega)]
    have hF1 : gB_F w W1 A t bu wo ab := by
      obtain ⟨f1, f2, f3, f4, f5, f6⟩ := hF
      rw [← hW1 72 (by decide) (by decide)] at f2 f3 f4 f5
      rw [← hW1 73 (by decide) (by decide)] at f6
      exact ⟨fun b b1 b2 b3 b4 => (hW1 b b3 b4).trans (f1 b b1 b2 b3 b4), f2, f3, f4, f5, f6⟩
    have hS1 : gB_S W1 b := by
      unfold gB_S
      rw [hW1 72 (by decide) (by decide)]
      exact hS
    (repeat refine gp_gc [11] od_Ch_grow rfl rfl ?_)
    cases eg : g with
    | false =>
      refine gb1_eq_t rfl ?_
      (repeat refine gp_gc [11] od_Ch_grow rfl rfl ?_)
      rw [inc]
      refine gp_drop 6 ?_
      refine nxt W1 b hF1 hS1 hlow ?_
      rw [← hg2, eg, Bool.and_false, if_neg (by decide)]
      rfl
    | true =>
      have eo := gB_or (m := m) (s := s) (by omega) hs
      refine gb1_eq_f (by decide) ?_
      (repeat refine gp_gc [11] od_Ch_grow rfl rfl ?_)
      rw [incc, inc, eo.1]
      have hlv1 : gB_lv W1 A ab nd th (c + 1) (2 ^ m + s) (m + 1) := by
        intro j hj
        have e1 : gB_p (ab j) nd th (2 ^ m + s) m = gB_p (ab j) nd th s m := gB_p_congr (fun i hi => (gB_tb hs).2 hi)
        have hj2 := hup j hj
        have e2 : gB_p (ab j) nd th (2 ^ m + s) (m + 1) = if gB_cd W ab (fun j => (gB_p (ab j) nd th s m).1) m j then ((gB_p (ab j) nd th s m).1 ||| 1 <<< (nI m &&& 31), (gB_p (ab j) nd th s m).2 ||| 1 <<< (W (5 + m) 1 &&& 31)) else ((gB_p (ab j) nd th s m).1, (gB_p (ab j) nd th s m).2) := by
          rw [gB_p_s, e1]
          unfold gB_s
          have z' : gB_cd W ab (fun j => (gB_p (ab j) nd th s m).1) m j ↔ gb (ab j) m = true ∧ nd m &&& ((gB_p (ab j) nd th s m).1 ^^^ -1) = 0 := by
            unfold gB_cd
            rw [eM, hnd m (by omega)]
          by_cases z : gb (ab j) m = true ∧ nd m &&& ((gB_p (ab j) nd th s m).1 ^^^ -1) = 0
          · rw [if_pos ⟨(gB_tb (i := 0) hs).1, z⟩, if_pos (z'.mpr z), eM, hth' m (by omega)]
          · rw [if_neg (fun y => z y.2), if_neg (fun y => z (z'.mp y))]
        rw [e2, show 6 * (c + 1) + j = 6 * c + 6 + j by omega, ← hj2]
        exact ⟨rfl, rfl⟩
      have gr := gB_grow hA ht hth ih d (m + 1) (c + 1) (2 ^ m + s) (cost + co m) b W1 (fun r V' => gp_Go l G (d + (f + 1) + 3) m_Ch_grow K 82 [some (.ref 72), some (.int (nI c)), some (.int fr), some (.int (nI s)), some (.int (nI cost)), some (.int (nI m)), some (.int (nI (cost + co m)))] (r.toList ++ []) V' 0 0) (by omega) (by omega) eo.2 c1 hF1 hS1 hlv1 (fun W2 hF2 hS2 hz2 => ?_)
      · exact gr
      · refine gp_go od_Ch_grow rfl ?_
        (repeat refine gp_gc [11] od_Ch_grow rfl rfl ?_)
        rw [inc]
        refine gp_drop 6 ?_
        refine nxt W2 _ hF2 hS2 (fun z hz => ?_) ?_
        · have a1 := hz2 z (by omega)
          have a2 := hlow z hz
          exact ⟨a1.1.trans a2.1, a1.2.trans a2.2⟩
        · rw [decide_eq_true c1, ← hg2, eg, Bool.true_and, if_pos rfl]
end

end
