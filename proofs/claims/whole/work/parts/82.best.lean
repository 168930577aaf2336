section
variable {l : Launch} {G : gp_G} {d : Nat} {w : Nat → Nat → Int32} {u : Int64 × (Nat → Int64)} {q : Nat → Nat} {K : Option Value → gp_H → Prop}
/-! ===== the class's methods: best ===== -/
def gB_k (minds : Int32) (k : Nat) : List Nat := (List.range k).filter (fun i => decide ((minds >>> (nI i &&& 31)) &&& 1 = 1))
theorem gB_k_s (minds : Int32) (k : Nat) : gB_k minds (k + 1) = if (minds >>> (nI k &&& 31)) &&& 1 = 1 then gB_k minds k ++ [k] else gB_k minds k := by
  unfold gB_k
  rw [List.range_succ, List.filter_append]
  by_cases c : (minds >>> (nI k &&& 31)) &&& 1 = 1
  · rw [if_pos c]
    simp [c]
  · rw [if_neg c]
    simp [c]
theorem gB_k_l {minds : Int32} {k : Nat} : (gB_k minds k).length ≤ k := by
  have := List.length_filter_le (fun i => decide ((minds >>> (nI i &&& 31)) &&& 1 = 1)) (List.range k)
  rw [List.length_range] at this
  exact this
theorem gB_k_m {minds : Int32} {k j : Nat} (h : j < (gB_k minds k).length) : (gB_k minds k).getD j 0 < k := by
  have e : (gB_k minds k).getD j 0 = (gB_k minds k)[j] := by simp [List.getD, h]
  rw [e]
  have := List.getElem_mem h
  unfold gB_k at this
  rw [List.mem_filter, List.mem_range] at this
  exact this.1
section
variable {n t bu : Nat} {wo : Int32} {D : Nat → gy_D}
def gB_ab (w : Nat → Nat → Int32) (q : Nat → Nat) (t : Nat) (ks : List Nat) (j : Nat) : Int32 := gp_it (gB_aS w (q (ks.getD j 0))) 0 t 0
def gB_co (w : Nat → Nat → Int32) (i : Nat) : Nat := (w (5 + i) 2).toNatClampNeg
set_option maxRecDepth 100000 in
theorem sp_Ch_findBest {most minds x : Int32} (J : gJ_m w n) (hq : gc_q q) (em : most = nI bu) (hbu : bu ≤ 9999) (ex : x = wo) (h01 : wo = 0 ∨ wo = 1) (et : t = min n 12) (h : ∀ W, gs_R w W → gB_S W (gB_fo (gB_k minds 6).length t (gB_ab w q t (gB_k minds 6)) (fun i => w (5 + i) 5) (fun i => w (5 + i) 1) wo (-1, 0, 0) ((0, 0) :: gB_C (gB_k minds 6).length (gB_ab w q t (gB_k minds 6)) (fun i => w (5 + i) 5) (fun i => w (5 + i) 1) (gB_co w) bu t 0 0 0)) → K none (gv W u q)) : gp_Cal l G (d + 16) m_Ch_findBest [.ref 72, .int most, .int minds, .int x] (gv w u q) K := by
  refine gp_enter od_Ch_findBest rfl ?_
  subst em ex
  have hn := J.2.2.1
  have ht : t ≤ 12 := by omega
  have loop : ∀ (r k : Nat) (W : Nat → Nat → Int32), k + r = 6 → gC w W → W 72 5 = nI (gB_k minds k).length → W 72 6 = nI t → W 72 7 = nI bu → W 72 8 = x → gB_S W (-1, 0, 0) → (∀ j, j < (gB_k minds k).length → W 73 j = gB_ab w q t (gB_k minds k) j ∧ W 74 j = 0 ∧ W 75 j = 0) → gp_Go l G (d + 16) m_Ch_findBest K 49 [some (.ref 72), some (.int (nI bu)), some (.int minds), some (.int x), some (.int (nI k))] [] (gv W u q) 0 0 := by
    intro r
    induction r with
    | zero =>
      intro k W hk hC e5 e6 e7 e8 hS hrow
      have ek : k = 6 := by omega
      subst ek
      have hA : (gB_k minds 6).length ≤ 6 := gB_k_l
      have hth : ∀ i, i < t → ∃ a : Nat, a < 16 ∧ w (5 + i) 1 = nI a := fun i hi => gJ_th J i (by omega)
      have hco : ∀ i, i < t → w (5 + i) 2 = nI (gB_co w i) ∧ gB_co w i ≤ 99 := by
        intro i hi
        obtain ⟨a, ha, e⟩ := (J.2.2.2.2.2.2.2.2.1 i (by omega)).2.2.1
        unfold gB_co
        rw [(J.2.2.2.2.2.2.2.1 i (by omega)).2.2.1, e, nI_clamp (by omega)]
        exact ⟨rfl, ha⟩
      refine gp_go od_Ch_findBest rfl ?_
      (repeat refine gp_gc [49] od_Ch_findBest rfl rfl ?_)
      refine gb_ge_t (by decide) ?_
      (repeat refine gp_gc [49] od_Ch_findBest rfl rfl ?_)
      have gr := gB_grow (l := l) (G := G) (u := u) (q := q) (w := w) (A := (gB_k minds 6).length) (t := t) (bu := bu) (wo := x) (ab := gB_ab w q t (gB_k minds 6)) (nd := fun i => w (5 + i) 5) (th := fun i => w (5 + i) 1) (co := gB_co w) hA ht hth (gB_lp hA ht hbu (fun _ _ => rfl) (fun _ _ => rfl) hth hco t) (d + (12 - t)) 0 0 0 0 (-1, 0, 0) W (fun r V' => gp_Go l G (d + 16) m_Ch_findBest K 130 [some (.ref 72), some (.int (nI bu)), some (.int minds), some (.int x), some (.int (nI 6))] (r.toList ++ []) V' 0 0) (by omega) (by omega) (by decide) (by omega) ⟨hC, e5, e6, e7, e8, fun j hj => (hrow j hj).1⟩ hS (fun j hj => by rw [show 6 * 0 + j = j by omega]; exact (hrow j hj).2) (fun W' hF hS' _ => ?_)
      · rw [show d + (12 - t) + t + 3 = d + 15 by omega] at gr
        exact gr
      · refine gp_go od_Ch_findBest rfl ?_
        exact h W' (gC_R hF.1) hS'
    | succ r ih =>
      intro k W hk hC e5 e6 e7 e8 hS hrow
      have inc : nI k + Int32.ofInt 1 = nI (k + 1) := gp_inc rfl
      have ck : (nI k).toNatClampNeg = k := nI_clamp (by omega)
      have hl := gB_k_l (minds := minds) (k := k)
      have cl : (W 72 5).toNatClampNeg = (gB_k minds k).length := by rw [e5]; exact nI_clamp (by omega)
      refine gp_go od_Ch_findBest rfl ?_
      (repeat refine gp_gc [49] od_Ch_findBest rfl rfl ?_)
      refine gb_ge_f (nI_ge (b := 6) (by omega) (by decide)) ?_
      (repeat refine gp_gc [49] od_Ch_findBest rfl rfl ?_)
      by_cases c : (minds >>> (nI k &&& 31)) &&& 1 = 1
      rotate_left
      · have ek : gB_k minds (k + 1) = gB_k minds k := by rw [gB_k_s, if_neg c]
        refine gb_ne_t c ?_
        (repeat refine gp_gc [49] od_Ch_findBest rfl rfl ?_)
        rw [inc]
        refine ih (k + 1) W (by omega) hC ?_ e6 e7 e8 hS ?_
        · rw [ek]; exact e5
        · rw [ek]; exact hrow
      have ek : gB_k minds (k + 1) = gB_k minds k ++ [k] := by rw [gB_k_s, if_pos c]
      refine gb_ne_f c ?_
      (repeat refine gp_gc [49] od_Ch_findBest rfl rfl ?_)
      refine And.intro (vp_in_nI (by omega) (by decide)) ⟨_, rfl, ?_⟩
      rw [ck]
      (repeat refine gp_gc [49] od_Ch_findBest rfl rfl ?_)
      refine sp_Ch_ableMarks (d := d + 13) (w := W) (m := q k) (t := t) (hq.1 k (by omega)) e6 (by omega) (fun i hi => by rw [hC _ (by omega) (by omega) (by omega) (by omega)]; exact gJ_k J hi) ?_
      have eA : gp_it (gB_aS W (q k)) 0 t 0 = gp_it (gB_aS w (q k)) 0 t 0 := by
        refine gp_it_congr (fun i _ hi => ?_)
        funext s
        have g0 : W (gp_ma (q k)) = w (gp_ma (q k)) := by
          have bb := gp_ma_n (hq.1 k (by omega)) 0 (by decide)
          exact hC _ (by omega) (by omega) (by omega) (by omega)
        have g1 : W (5 + i) = w (5 + i) := hC _ (by omega) (by omega) (by omega) (by omega)
        have ea : gc_abl W (q k) (W 1 4) (-1) i = gc_abl w (q k) (w 1 4) (-1) i := by
          unfold gc_abl gc_dep
          rw [g0, g1, hC 1 (by decide) (by decide) (by decide) (by decide), hC 3 (by decide) (by decide) (by decide) (by decide)]
        unfold gB_aS
        simp only [ea]
      rw [eA]
      generalize hab : gp_it (gB_aS w (q k)) 0 t 0 = able at *
      (repeat refine gp_gc [49] od_Ch_findBest rfl rfl ?_)
      have il : vp_in (W 72 5) 6 := by rw [e5]; exact vp_in_nI (by omega) (by decide)
      have il2 : vp_in (W 72 5) 78 := by rw [e5]; exact vp_in_nI (by omega) (by decide)
      refine And.intro il ?_
      (repeat refine gp_gc [49] od_Ch_findBest rfl rfl ?_)
      refine And.intro il2 ?_
      (repeat refine gp_gc [49] od_Ch_findBest rfl rfl ?_)
      refine And.intro il2 ?_
      (repeat refine gp_gc [49] od_Ch_findBest rfl rfl ?_)
      rw [inc, cl]
      refine ih (k + 1) (gw (gw (gw (gw W 73 (gB_k minds k).length able) 74 (gB_k minds k).length 0) 75 (gB_k minds k).length 0) 72 5 (W 72 5 + 1)) (by omega) (gC_w (gC_w (gC_w (gC_w hC (by decide)) (by decide)) (by decide)) (by decide)) ?_ e6 e7 e8 hS ?_
      · show W 72 5 + 1 = _
        rw [e5, ek, List.length_append]
        exact nI_1 _
      · intro j hj
        rw [ek, List.length_append] at hj
        have hj : j < (gB_k minds k).length + 1 := hj
        show upd (W 73) (gB_k minds k).length able j = _ ∧ upd (W 74) (gB_k minds k).length 0 j = 0 ∧ upd (W 75) (gB_k minds k).length 0 j = 0
        rw [ek]
        by_cases e : j = (gB_k minds k).length
        · rw [e, pk_us, pk_us, pk_us]
          refine ⟨?_, rfl, rfl⟩
          unfold gB_ab
          rw [← hab]
          congr 2
          simp [List.getD]
        · rw [pk_un e, pk_un e, pk_un e]
          have hj2 := hrow j (by omega)
          refine ⟨?_, hj2.2⟩
          rw [hj2.1]
          unfold gB_ab
          congr 2
          have : j < (gB_k minds k).length := by omega
          simp [List.getD, List.getElem?_append, this]
  (repeat refine gp_gc [49] od_Ch_findBest rfl rfl ?_)
  refine And.intro h01 ?_
  (repeat refine gp_gc [49] od_Ch_findBest rfl rfl ?_)
  have e12 : (if (12 : Int32) < w 1 3 then (12 : Int32) else w 1 3) = nI t := by
    rw [J.1, et]
    exact gp_minN (x := n) (y := 12) (by omega) (by decide)
  refine loop 6 0 (gw (gw (gw (gw (gw (gw (gw w 72 6 (if (12 : Int32) < w 1 3 then (12 : Int32) else w 1 3)) 72 7 (nI bu)) 72 8 x) 72 10 0) 72 9 0) 72 11 (-1)) 72 5 0) (by omega) (gC_w (gC_w (gC_w (gC_w (gC_w (gC_w (gC_w (gC_r w) (by decide)) (by decide)) (by decide)) (by decide)) (by decide)) (by decide)) (by decide)) rfl e12 rfl rfl ⟨rfl, rfl, rfl⟩ (fun j hj => absurd hj (by exact Nat.not_lt_zero j))
/-! sets in order -/
def gB_cs (co : Nat → Nat) (s : Nat) : Nat → Nat
  | 0 => 0
  | k + 1 => gB_cs co s k + (if s.testBit k = true then co k else 0)
/-- x is better than y -/
def gB_bt (wt : Nat → Int32) (x y : Nat × Nat) : Prop := wt y.1 < wt x.1 ∨ (wt x.1 = wt y.1 ∧ (x.2 < y.2 ∨ (x.2 = y.2 ∧ x.1 < y.1)))
theorem gB_bt_nt {wt : Nat → Int32} {x y z : Nat × Nat} (h1 : ¬ gB_bt wt x y) (h2 : gB_bt wt z y) : ¬ gB_bt wt x z := by
  unfold gB_bt at *
  simp only [Int32.lt_iff_toInt_lt, ← Int32.toInt_inj] at *
  omega
theorem gB_bt_r {wt : Nat → Int32} {x : Nat × Nat} : ¬ gB_bt wt x x := by
  unfold gB_bt
  simp only [Int32.lt_iff_toInt_lt]
  omega
theorem gB_bt_eq {wt : Nat → Int32} {x y : Nat × Nat} (h1 : ¬ gB_bt wt x y) (h2 : ¬ gB_bt wt y x) : x = y := by
  unfold gB_bt at *
  simp only [Int32.lt_iff_toInt_lt, ← Int32.toInt_inj] at *
  obtain ⟨a, b⟩ := x
  obtain ⟨c, e⟩ := y
  simp only at h1 h2
  rw [show a = c by omega, show b = e by omega]
theorem gB_jb {wt : Nat → Int32} {x y : Nat × Nat} (hx1 : x.1 < 4096) (hx2 : x.2 ≤ 9999) (hy1 : y.1 < 4096) (hy2 : y.2 ≤ 9999) : (gB_bt wt x y → gB_j (wt x.1) (nI x.2) (nI x.1) (wt y.1, nI y.2, nI y.1) = (wt x.1, nI x.2, nI x.1)) ∧ (¬ gB_bt wt x y → gB_j (wt x.1) (nI x.2) (nI x.1) (wt y.1, nI y.2, nI y.1) = (wt y.1, nI y.2, nI y.1)) := by
  have e : (wt y.1 < wt x.1 ∨ (wt x.1 = wt y.1 ∧ (nI x.2 < nI y.2 ∨ (nI x.2 = nI y.2 ∧ nI x.1 < nI y.1)))) ↔ gB_bt wt x y := by
    unfold gB_bt
    rw [nI_ltI (by omega) (by omega), nI_eq (by omega) (by omega), nI_ltI (by omega) (by omega)]
  exact ⟨fun h => if_pos (e.mpr h), fun h => if_neg (fun z => h (e.mp z))⟩
theorem gB_foldb {A : Nat} {ab nd th : Nat → Int32} : ∀ (L : List (Nat × Nat)) (y : Nat × Nat), (∀ e, e ∈ y :: L → e.1 < 4096 ∧ e.2 ≤ 9999) → ∃ z, z ∈ y :: L ∧ gB_fo A t ab nd th wo (gB_w A t ab nd th wo y.1, nI y.2, nI y.1) L = (gB_w A t ab nd th wo z.1, nI z.2, nI z.1) ∧ ∀ e, e ∈ y :: L → ¬ gB_bt (gB_w A t ab nd th wo) e z
  | [], y, _ => ⟨y, List.mem_cons_self, rfl, fun e he => by rw [List.mem_singleton.mp he]; exact gB_bt_r⟩
  | x :: L, y, h => by
    have hy := h y List.mem_cons_self
    have hx := h x (List.mem_cons_of_mem _ List.mem_cons_self)
    have jb := gB_jb (wt := gB_w A t ab nd th wo) hx.1 hx.2 hy.1 hy.2
    by_cases c : gB_bt (gB_w A t ab nd th wo) x y
    · obtain ⟨z, z1, z2, z3⟩ := gB_foldb (A := A) (ab := ab) (nd := nd) (th := th) L x (fun e he => h e (List.mem_cons_of_mem _ he))
      refine ⟨z, List.mem_cons_of_mem _ z1, ?_, fun e he => ?_⟩
      · show gB_fo A t ab nd th wo (gB_j (gB_w A t ab nd th wo x.1) (nI x.2) (nI x.1) (gB_w A t ab nd th wo y.1, nI y.2, nI y.1)) L = _
        rw [jb.1 c]
        exact z2
      · rcases List.mem_cons.mp he with rfl | he
        · intro z4
          have n1 : ¬ gB_bt (gB_w A t ab nd th wo) x z := z3 x List.mem_cons_self
          unfold gB_bt at *
          simp only [Int32.lt_iff_toInt_lt, ← Int32.toInt_inj] at *
          omega
        · exact z3 e he
    · obtain ⟨z, z1, z2, z3⟩ := gB_foldb (A := A) (ab := ab) (nd := nd) (th := th) L y (fun e he => h e (by rcases List.mem_cons.mp he with rfl | he; exact List.mem_cons_self; exact List.mem_cons_of_mem _ (List.mem_cons_of_mem _ he)))
      refine ⟨z, by rcases List.mem_cons.mp z1 with e | e; exact List.mem_cons.mpr (Or.inl e); exact List.mem_cons_of_mem _ (List.mem_cons_of_mem _ e), ?_, fun e he => ?_⟩
      · show gB_fo A t ab nd th wo (gB_j (gB_w A t ab nd th wo x.1) (nI x.2) (nI x.1) (gB_w A t ab nd th wo y.1, nI y.2, nI y.1)) L = _
        rw [jb.2 c]
        exact z2
      · rcases List.mem_cons.mp he with rfl | he
        · exact z3 e List.mem_cons_self
        · rcases List.mem_cons.mp he with rfl | he
          · intro z4
            have n1 := z3 y List.mem_cons_self
            unfold gB_bt at *
            simp only [Int32.lt_iff_toInt_lt, ← Int32.toInt_inj] at *
            omega
          · exact z3 e (List.mem_cons_of_mem _ he)
/-! what is visited -/
theorem gB_cs_up {co : Nat → Nat} {s m : Nat} (hs : s < 2 ^ m) : ∀ j, gB_cs co s (m + j) = gB_cs co s m
  | 0 => rfl
  | j + 1 => by
    rw [← Nat.add_assoc]
    show gB_cs co s (m + j) + (if s.testBit (m + j) = true then co (m + j) else 0) = _
    rw [gB_cs_up hs j, Nat.testBit_lt_two_pow (Nat.lt_of_lt_of_le hs (Nat.pow_le_pow_right (by decide) (by omega)))]
    simp
theorem gB_cs_congr {co : Nat → Nat} {s s' : Nat} : ∀ {k : Nat}, (∀ i, i < k → s.testBit i = s'.testBit i) → gB_cs co s k = gB_cs co s' k
  | 0, _ => rfl
  | k + 1, h => by
    show gB_cs co s k + _ = gB_cs co s' k + _
    rw [gB_cs_congr (fun i hi => h i (by omega)), h k (by omega)]
theorem gB_cs_mono {co : Nat → Nat} {s : Nat} : ∀ {k j : Nat}, gB_cs co s k ≤ gB_cs co s (k + j)
  | k, 0 => Nat.le_refl _
  | k, j + 1 => Nat.le_trans (gB_cs_mono (j := j)) (Nat.le_add_right _ _)
section
variable {A : Nat} {ab nd th : Nat → Int32} {co : Nat → Nat}
theorem gB_C_s : ∀ (f m s cost : Nat) (e : Nat × Nat), m + f = t → s < 2 ^ m → cost = gB_cs co s t → cost ≤ bu → e ∈ (s, cost) :: gB_C A ab nd th co bu f m s cost → e.1 < 2 ^ t ∧ e.2 = gB_cs co e.1 t ∧ e.2 ≤ bu
  | 0, m, s, cost, e, hm, hs, hc, hb, he => by
    have : e = (s, cost) := by simpa [gB_C] using he
    rw [this]
    exact ⟨by rw [← hm]; exact hs, hc, hb⟩
  | f + 1, m, s, cost, e, hm, hs, hc, hb, he => by
    have hs1 : s < 2 ^ (m + 1) := by rw [Nat.pow_succ]; omega
    have rest : e ∈ (s, cost) :: gB_C A ab nd th co bu f (m + 1) s cost → e.1 < 2 ^ t ∧ e.2 = gB_cs co e.1 t ∧ e.2 ≤ bu := fun z => gB_C_s f (m + 1) s cost e (by omega) hs1 hc hb z
    rcases List.mem_cons.mp he with z | z
    · exact rest (List.mem_cons.mpr (Or.inl z))
    · rcases List.mem_append.mp z with z | z
      · by_cases c : (decide (cost + co m ≤ bu) && gB_g A ab nd th s m) = true
        · rw [if_pos c] at z
          rw [Bool.and_eq_true, decide_eq_true_iff] at c
          have hs2 : 2 ^ m + s < 2 ^ (m + 1) := by rw [Nat.pow_succ]; omega
          refine gB_C_s f (m + 1) (2 ^ m + s) (cost + co m) e (by omega) hs2 ?_ c.1 z
          have u1 := gB_cs_up (co := co) hs (t - m)
          have u2 := gB_cs_up (co := co) hs2 (t - (m + 1))
          rw [show m + (t - m) = t by omega] at u1
          rw [show m + 1 + (t - (m + 1)) = t by omega] at u2
          rw [hc, u1, u2]
          show _ = gB_cs co (2 ^ m + s) m + (if (2 ^ m + s).testBit m = true then co m else 0)
          rw [(gB_tb (i := 0) hs).1, if_pos rfl, gB_cs_congr (s := 2 ^ m + s) (s' := s) (fun i hi => (gB_tb hs).2 hi)]
        · rw [if_neg c] at z
          exact absurd z (List.not_mem_nil)
      · exact rest (List.mem_cons_of_mem _ z)
theorem gB_C_c {T : Nat} (hT : T < 2 ^ t) (hc : gB_cs co T t ≤ bu) (hg : ∀ m, m < t → T.testBit m = true → gB_g A ab nd th (T % 2 ^ m) m = true) : ∀ (f m : Nat), m + f = t → (T, gB_cs co T t) ∈ (T % 2 ^ m, gB_cs co T m) :: gB_C A ab nd th co bu f m (T % 2 ^ m) (gB_cs co T m)
  | 0, m, hm => by
    have e : m = t := by omega
    rw [e, Nat.mod_eq_of_lt hT]
    exact List.mem_cons_self
  | f + 1, m, hm => by
    have ih := gB_C_c hT hc hg f (m + 1) (by omega)
    have cm : gB_cs co T (m + 1) = gB_cs co T m + (if T.testBit m = true then co m else 0) := rfl
    have md : T % 2 ^ (m + 1) = 2 ^ m * (T / 2 ^ m % 2) + T % 2 ^ m := by
      rw [Nat.pow_succ, Nat.mod_mul, Nat.add_comm]
    have tb : T.testBit m = decide (T / 2 ^ m % 2 = 1) := Nat.testBit_eq_decide_div_mod_eq
    have mm := gB_cs_mono (co := co) (s := T) (k := m + 1) (j := t - (m + 1))
    rw [show m + 1 + (t - (m + 1)) = t by omega] at mm
    by_cases c : T / 2 ^ m % 2 = 1
    · rw [c, Nat.mul_one] at md
      have tb1 : T.testBit m = true := by rw [tb]; exact decide_eq_true c
      rw [tb1, if_pos rfl] at cm
      rw [md, cm] at ih
      refine List.mem_cons_of_mem _ (List.mem_append.mpr (Or.inl ?_))
      rw [if_pos (by rw [Bool.and_eq_true, decide_eq_true_iff]; exact ⟨by omega, hg m (by omega) tb1⟩)]
      exact ih
    · have c0 : T / 2 ^ m % 2 = 0 := by omega
      rw [c0, Nat.mul_zero, Nat.zero_add] at md
      have tb1 : T.testBit m = false := by rw [tb]; exact decide_eq_false c
      rw [tb1] at cm
      have cm : gB_cs co T (m + 1) = gB_cs co T m := by simpa using cm
      rw [md, cm] at ih
      rcases List.mem_cons.mp ih with z | z
      · exact List.mem_cons.mpr (Or.inl z)
      · exact List.mem_cons_of_mem _ (List.mem_append.mpr (Or.inr z))
/-- a mark that is right for none may go -/
theorem gB_x {T m i : Nat} : (T ^^^ 2 ^ m).testBit i = (T.testBit i != decide (m = i)) := by
  rw [Nat.testBit_xor, Nat.testBit_two_pow]
theorem gB_drop {T m : Nat} (ht : T.testBit m = true) (hg : gB_g A ab nd th (T % 2 ^ m) m = false) {j : Nat} (hj : j < A) : ∀ k, gB_p (ab j) nd th (T ^^^ 2 ^ m) k = gB_p (ab j) nd th T k
  | 0 => rfl
  | k + 1 => by
    rw [gB_p_s, gB_p_s, gB_drop ht hg hj k]
    unfold gB_s
    by_cases c : k = m
    · have z1 : (T ^^^ 2 ^ m).testBit k = false := by rw [gB_x, c, ht, decide_eq_true rfl]; rfl
      rw [if_neg (fun z => by rw [z1] at z; exact absurd z.1 (by decide))]
      symm
      refine if_neg (fun z => ?_)
      have : gB_g A ab nd th (T % 2 ^ m) m = true := by
        rw [gB_g_i]
        refine ⟨j, hj, ?_⟩
        rw [c] at z
        have e : gB_p (ab j) nd th (T % 2 ^ m) m = gB_p (ab j) nd th T m := gB_p_congr (fun i hi => by rw [Nat.testBit_mod_two_pow, decide_eq_true hi, Bool.true_and])
        rw [e]
        exact z.2
      rw [hg] at this
      exact absurd this (by decide)
    · have z1 : (T ^^^ 2 ^ m).testBit k = T.testBit k := by
        rw [gB_x, decide_eq_false (fun z => c z.symm)]
        cases T.testBit k <;> rfl
      rw [z1]
theorem gB_cdrop {T m : Nat} (ht : T.testBit m = true) : ∀ k, gB_cs co (T ^^^ 2 ^ m) k + (if m < k then co m else 0) = gB_cs co T k
  | 0 => by
    show 0 + (if m < 0 then co m else 0) = 0
    rw [if_neg (by omega)]
  | k + 1 => by
    have ih := gB_cdrop ht k
    show gB_cs co (T ^^^ 2 ^ m) k + (if (T ^^^ 2 ^ m).testBit k = true then co k else 0) + (if m < k + 1 then co m else 0) = gB_cs co T k + (if T.testBit k = true then co k else 0)
    by_cases c : k = m
    · have z1 : (T ^^^ 2 ^ m).testBit k = false := by rw [gB_x, c, ht, decide_eq_true rfl]; rfl
      rw [z1, if_neg (by decide), c, ht, if_pos rfl, if_pos (by omega)]
      rw [c, if_neg (by omega)] at ih
      omega
    · have z1 : (T ^^^ 2 ^ m).testBit k = T.testBit k := by
        rw [gB_x, decide_eq_false (fun z => c z.symm)]
        cases T.testBit k <;> rfl
      rw [z1]
      by_cases d : m < k
      · rw [if_pos d] at ih
        rw [if_pos (show m < k + 1 by omega)]
        omega
      · rw [if_neg d] at ih
        rw [if_neg (show ¬ m < k + 1 by omega)]
        omega
theorem gB_opt (hco1 : ∀ m, m < t → 1 ≤ co m) {T : Nat} (hT : T < 2 ^ t) (hc : gB_cs co T t ≤ bu) (hopt : ∀ s, s < 2 ^ t → gB_cs co s t ≤ bu → ¬ gB_bt (gB_w A t ab nd th wo) (s, gB_cs co s t) (T, gB_cs co T t)) : ∀ m, m < t → T.testBit m = true → gB_g A ab nd th (T % 2 ^ m) m = true := by
  intro m hm ht
  cases hg : gB_g A ab nd th (T % 2 ^ m) m with
  | true => rfl
  | false =>
    exfalso
    have cd := gB_cdrop (co := co) ht t
    rw [if_pos hm] at cd
    have c1 := hco1 m hm
    refine hopt (T ^^^ 2 ^ m) (Nat.xor_lt_two_pow hT (Nat.pow_lt_pow_right (by decide) hm)) (by omega) (Or.inr ⟨?_, Or.inl ?_⟩)
    · show gB_w A t ab nd th wo (T ^^^ 2 ^ m) = gB_w A t ab nd th wo T
      unfold gB_w gB_f
      have e : ∀ j, j < A → (gB_p (ab j) nd th (T ^^^ 2 ^ m) t).2 = (gB_p (ab j) nd th T t).2 := fun j hj => by rw [gB_drop ht hg hj]
      have e2 : gp_it (fun j (p : Int32 × Int32) => (p.1 + gf_count (gB_p (ab j) nd th (T ^^^ 2 ^ m) t).2, if gf_count (gB_p (ab j) nd th (T ^^^ 2 ^ m) t).2 < p.2 then gf_count (gB_p (ab j) nd th (T ^^^ 2 ^ m) t).2 else p.2)) 0 A (0, 16) = gp_it (fun j (p : Int32 × Int32) => (p.1 + gf_count (gB_p (ab j) nd th T t).2, if gf_count (gB_p (ab j) nd th T t).2 < p.2 then gf_count (gB_p (ab j) nd th T t).2 else p.2)) 0 A (0, 16) := gp_it_congr (fun j _ hj => by rw [e j (by omega)])
      rw [e2]
    · show gB_cs co (T ^^^ 2 ^ m) t < gB_cs co T t
      omega
/-- the class's choice is the best of all -/
theorem gB_cls (ht : t ≤ 12) (hA : A ≤ 6) (hbu : bu ≤ 9999) (hco1 : ∀ m, m < t → 1 ≤ co m) {T : Nat} (hT : T < 2 ^ t) (hc : gB_cs co T t ≤ bu) (hopt : ∀ s, s < 2 ^ t → gB_cs co s t ≤ bu → ¬ gB_bt (gB_w A t ab nd th wo) (s, gB_cs co s t) (T, gB_cs co T t)) : gB_fo A t ab nd th wo (-1, 0, 0) ((0, 0) :: gB_C A ab nd th co bu t 0 0 0) = (gB_w A t ab nd th wo T, nI (gB_cs co T t), nI T) := by
  have p12 : (2 : Nat) ^ t ≤ 4096 := (gf_p2b ht).2
  have z0 : gB_cs co 0 t = 0 := by
    have := gB_cs_up (co := co) (s := 0) (m := 0) (by decide) t
    rw [Nat.zero_add] at this
    exact this
  have w0 : (-1 : Int32) < gB_w A t ab nd th wo 0 := by
    have e : ∀ j, (gB_p (ab j) nd th 0 t).2 = 0 := fun j => by
      have := gB_p_up (ab := ab j) (nd := nd) (th := th) (s := 0) (m := 0) (by decide) t
      rw [Nat.zero_add] at this
      rw [this]
      rfl
    unfold gB_w
    have e2 : (fun j => (gB_p (ab j) nd th 0 t).2) = fun _ => 0 := funext e
    rw [e2]
    have key : ∀ A, A < 7 → (-1 : Int32) < (gB_f (fun _ => 0) A).1 ∧ (-1 : Int32) < (gB_f (fun _ => 0) A).2 := by decide
    have := key A (by omega)
    split
    · exact this.1
    · exact this.2
  have first : gB_fo A t ab nd th wo (-1, 0, 0) ((0, 0) :: gB_C A ab nd th co bu t 0 0 0) = gB_fo A t ab nd th wo (gB_w A t ab nd th wo 0, nI 0, nI 0) (gB_C A ab nd th co bu t 0 0 0) := by
    show gB_fo A t ab nd th wo (gB_j (gB_w A t ab nd th wo 0) (nI 0) (nI 0) (-1, 0, 0)) _ = _
    have : gB_j (gB_w A t ab nd th wo 0) (nI 0) (nI 0) (-1, 0, 0) = (gB_w A t ab nd th wo 0, nI 0, nI 0) := if_pos (Or.inl w0)
    rw [this]
  have snd : ∀ e, e ∈ (0, 0) :: gB_C A ab nd th co bu t 0 0 0 → e.1 < 2 ^ t ∧ e.2 = gB_cs co e.1 t ∧ e.2 ≤ bu := fun e he => gB_C_s t 0 0 0 e (by omega) (by decide) z0.symm (by omega) he
  obtain ⟨z, z1, z2, z3⟩ := gB_foldb (t := t) (wo := wo) (A := A) (ab := ab) (nd := nd) (th := th) (gB_C A ab nd th co bu t 0 0 0) (0, 0) (fun e he => by have := snd e he; exact ⟨by omega, by omega⟩)
  rw [first, z2]
  have hz := snd z z1
  have vis : (T, gB_cs co T t) ∈ (0, 0) :: gB_C A ab nd th co bu t 0 0 0 := by
    have := gB_C_c (co := co) hT hc (gB_opt hco1 hT hc hopt) t 0 (by omega)
    rw [Nat.pow_zero, Nat.mod_one] at this
    exact this
  have n1 := z3 _ vis
  have n2 := hopt z.1 hz.1 (by rw [← hz.2.1]; exact hz.2.2)
  rw [← hz.2.1] at n2
  have e : z = (T, gB_cs co T t) := gB_bt_eq n2 n1
  rw [e]
end
end

end
