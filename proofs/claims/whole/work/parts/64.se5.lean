section
variable {l : Launch} {G : gp_G} {d : Nat} {w : Nat → Nat → Int32} {u : Int64 × (Nat → Int64)} {q : Nat → Nat} {K : Option Value → gp_H → Prop}
/-! ===== the class's search: walk ===== -/
section
variable {m n : Nat} {ms : Nat → Nat} {PL : List (gf_L × gf_L)} {S : Nat → Nat → Int32} {σ : Type} {rep : σ → (Nat → Nat → Int32) → Prop} {lim : σ → Int} {st : σ → List gz_S → σ}
def gW_ar (l : Launch) (G : gp_G) (u : Int64 × (Nat → Int64)) (q : Nat → Nat) (n : Nat) (S : Nat → Nat → Int32) {σ : Type} (rep : σ → (Nat → Nat → Int32) → Prop) (lim : σ → Int) (st : σ → List gz_S → σ) : Prop := ∀ (d : Nat) (K : Option Value → gp_H → Prop) (x : σ) (W : Nat → Nat → Int32) (tk : Nat → Nat) (s : Nat), gY S W → rep x W → (s : Int) ≤ lim x → s ≤ 9990 → (∀ j, j < n → W 70 j = nI (tk j)) → (∀ W', gY S W' → rep (st x [(s, tk)]) W' → W' 70 = W 70 → K none (gv W' u q)) → gp_Cal l G d m_Se_arrive [.ref 65, .int (nI s)] (gv W u q) K
def gW_ok {σ : Type} (rep : σ → (Nat → Nat → Int32) → Prop) (lim : σ → Int) (st : σ → List gz_S → σ) : Prop := (∀ x W, rep x W → (W 65 9).toInt = lim x) ∧ (∀ x W k v, rep x W → rep x (gw W 70 k v)) ∧ (∀ x W, rep x W → st x [] = x) ∧ (∀ x A B, st (st x A) B = st x (A ++ B)) ∧ (∀ x W L, rep x W → (∀ e, e ∈ L → e.1 ≤ 9990) → (∀ e, e ∈ L → lim x < (e.1 : Int)) → st x L = x)
set_option maxRecDepth 100000 in
theorem gl_wL (H : gS_H w S m n ms PL) (hn : n ≤ 10) (hms : ∀ i, i < n → ms i < 16) (O : gW_ok rep lim st) {f i s : Nat} {tk : Nat → Nat} (hi : i + (f + 1) = n) (hs : s ≤ 999 * i) (h4 : ∀ j, j < i → tk j < 4)
    (ihC : ∀ (K : Option Value → gp_H → Prop) (tk : Nat → Nat) (s : Nat) (x : σ) (W : Nat → Nat → Int32), s ≤ 999 * (i + 1) → gY S W → rep x W → (∀ j, j < i + 1 → W 70 j = nI (tk j) ∧ tk j < 4) → ((s + gcz_fl w m ms PL n (i + 1) : Nat) : Int) ≤ lim x → (∀ W', gY S W' → rep (st x (gz_c (gcz_ok w m ms) (gcz_co w ms PL) f (i + 1) tk s)) W' → (∀ j, j < i + 1 → W' 70 j = W 70 j) → K none (gv W' u q)) → gp_Cal l G (d + f + 1) m_Se_walk [.ref 65, .int (nI (i + 1)), .int (nI s), .int (gz_T w ms tk (i + 1)), .int (gz_R ms tk (i + 1))] (gv W u q) K) :
    ∀ (r t : Nat) (x : σ) (W : Nat → Nat → Int32), t + r = 4 → gY S W → rep x W → (∀ j, j < i → W 70 j = nI (tk j)) → (∀ W', gY S W' → rep (st x (gz_l (fun t => if gcz_ok w m ms i t tk then gz_c (gcz_ok w m ms) (gcz_co w ms PL) f (i + 1) (gz_u tk i t) (s + gcz_co w ms PL i t tk) else []) r t)) W' → (∀ j, j < i → W' 70 j = W 70 j) → K none (gv W' u q)) → gp_Go l G (d + (f + 1) + 1) m_Se_walk K 33 [some (.ref 65), some (.int (nI i)), some (.int (nI s)), some (.int (gz_T w ms tk i)), some (.int (gz_R ms tk i)), some (.ref (5 + ms i)), some (.int (nI t)), none, none, none, none, none] [] (gv W u q) 0 0 := by
  obtain ⟨hX, H8, H66, H67, H68, H69⟩ := H
  intro r
  induction r with
  | zero =>
    intro t x W ht hY hr h70 h
    have et : t = 4 := by omega
    subst et
    have h := h W hY (by rw [show gz_l (fun t => if gcz_ok w m ms i t tk then gz_c (gcz_ok w m ms) (gcz_co w ms PL) f (i + 1) (gz_u tk i t) (s + gcz_co w ms PL i t tk) else []) 0 4 = [] from rfl, O.2.2.1 x W hr]; exact hr) (fun _ _ => rfl)
    refine gp_go od_Se_walk rfl ?_
    (repeat refine gp_gc [33, 80, 105, 119, 195] od_Se_walk rfl rfl ?_)
    refine gb_ge_t (by decide) ?_
    (repeat refine gp_gc [33, 80, 105, 119, 195] od_Se_walk rfl rfl ?_)
    exact h
  | succ r ih =>
    intro t x W ht hY hr h70 h
    have inc : nI t + Int32.ofInt 1 = nI (t + 1) := gp_inc rfl
    have hmi := hms i (by omega)
    have ci : (nI i).toNatClampNeg = i := nI_clamp (by omega)
    have ii : vp_in (nI i) 10 := vp_in_nI (by omega) (by decide)
    have e67 : W 67 i = gc_tv (gc_A w m ms i 1) (gc_A w m ms i 2) (gc_A w m ms i 3) := by rw [hY.1 67 (by decide) (by decide) (by decide)]; exact H67 i (by omega)
    have eM : W (5 + ms i) = w (5 + ms i) := (hY.1 _ (by omega) (by omega) (by omega)).trans (gX_mk hX hmi)
    have eA := gc_tv_A (A := gc_A w m ms i) (t := t) (by omega)
    have eMin : (if (2 : Int32) < nI t then (2 : Int32) else nI t) = nI (min t 2) := gp_minN (x := t) (y := 2) (by omega) (by decide)
    -- what is left behind this taking
    have nxt : ∀ (x1 : σ) (W1 : Nat → Nat → Int32), gY S W1 → rep x1 W1 → (∀ j, j < i → W1 70 j = W 70 j) → x1 = st x (if gcz_ok w m ms i t tk then gz_c (gcz_ok w m ms) (gcz_co w ms PL) f (i + 1) (gz_u tk i t) (s + gcz_co w ms PL i t tk) else []) → gp_Go l G (d + (f + 1) + 1) m_Se_walk K 33 [some (.ref 65), some (.int (nI i)), some (.int (nI s)), some (.int (gz_T w ms tk i)), some (.int (gz_R ms tk i)), some (.ref (5 + ms i)), some (.int (nI (t + 1))), none, none, none, none, none] [] (gv W1 u q) 0 0 := by
      intro x1 W1 hY1 hr1 h71 ex1
      refine ih (t + 1) x1 W1 (by omega) hY1 hr1 (fun j hj => by rw [h71 j hj]; exact h70 j hj) (fun W' hY' hr' h7' => h W' hY' ?_ (fun j hj => (h7' j hj).trans (h71 j hj)))
      rw [ex1, O.2.2.2.1] at hr'
      exact hr'
    have no : gcz_ok w m ms i t tk = false → gp_Go l G (d + (f + 1) + 1) m_Se_walk K 80 [some (.ref 65), some (.int (nI i)), some (.int (nI s)), some (.int (gz_T w ms tk i)), some (.int (gz_R ms tk i)), some (.ref (5 + ms i)), some (.int (nI t)), some (.int 0), none, none, none, none] [] (gv W u q) 0 0 := by
      intro hno
      have nxt := nxt x W hY hr (fun _ _ => rfl) (by rw [hno]; exact (O.2.2.1 x W hr).symm)
      have ht0 : t ≠ 0 := by
        intro z
        rw [z] at hno
        simp [gcz_ok] at hno
      refine gp_go od_Se_walk rfl ?_
      (repeat refine gp_gc [33, 80] od_Se_walk rfl rfl ?_)
      refine gb1_eq_f (nI_ne0 (by omega) (by omega)) ?_
      (repeat refine gp_gc [33, 80] od_Se_walk rfl rfl ?_)
      refine gb1_ne_f rfl ?_
      (repeat refine gp_gc [33, 80] od_Se_walk rfl rfl ?_)
      refine gb1_eq_t (Int32.and_zero) ?_
      (repeat refine gp_gc [33, 80] od_Se_walk rfl rfl ?_)
      have eX : nI i * 6 + 2 * nI (min t 2) + 0 = nI (6 * i + 2 * min t 2) := by
        show nI i * nI 6 + nI 2 * nI (min t 2) + nI 0 = _
        rw [pk_mul, pk_mul, nI_add, nI_add]
        congr 1
        omega
      refine And.intro (show vp_in (nI i * 6 + 2 * (if (2 : Int32) < nI t then (2 : Int32) else nI t) + 0) 60 by rw [eMin, eX]; exact vp_in_nI (by omega) (by decide)) ?_
      (repeat refine gp_gc [33, 80] od_Se_walk rfl rfl ?_)
      refine gb1_eq_t rfl ?_
      (repeat refine gp_gc [33, 80] od_Se_walk rfl rfl ?_)
      rw [inc]
      refine gp_drop 7 (gp_drop 8 (gp_drop 9 (gp_drop 10 ?_)))
      exact nxt
    have yes : gcz_ok w m ms i t tk = true → gp_Go l G (d + (f + 1) + 1) m_Se_walk K 80 [some (.ref 65), some (.int (nI i)), some (.int (nI s)), some (.int (gz_T w ms tk i)), some (.int (gz_R ms tk i)), some (.ref (5 + ms i)), some (.int (nI t)), some (.int 1), none, none, none, none] [] (gv W u q) 0 0 := by
      intro hok
      have nxt : ∀ (x1 : σ) (W1 : Nat → Nat → Int32), gY S W1 → rep x1 W1 → (∀ j, j < i → W1 70 j = W 70 j) → x1 = st x (gz_c (gcz_ok w m ms) (gcz_co w ms PL) f (i + 1) (gz_u tk i t) (s + gcz_co w ms PL i t tk)) → gp_Go l G (d + (f + 1) + 1) m_Se_walk K 33 [some (.ref 65), some (.int (nI i)), some (.int (nI s)), some (.int (gz_T w ms tk i)), some (.int (gz_R ms tk i)), some (.ref (5 + ms i)), some (.int (nI (t + 1))), none, none, none, none, none] [] (gv W1 u q) 0 0 := fun x1 W1 a b c e => nxt x1 W1 a b c (by rw [if_pos hok]; exact e)
      have hb := gcz_b_lt w ms i t tk
      have hco : gcz_co w ms PL i t tk ≤ 999 := (gc_P_e w ms PL _).2
      have hfl := gcz_fl_b w m ms PL n (i + 1)
      have hmn : n - (i + 1) = f := by omega
      rw [hmn] at hfl
      have c119 : ∀ th tw : Int32, th = gc_th1 w (ms i) t → tw = nI (gcz_b w ms i t tk) → gp_Go l G (d + (f + 1) + 1) m_Se_walk K 119 [some (.ref 65), some (.int (nI i)), some (.int (nI s)), some (.int (gz_T w ms tk i)), some (.int (gz_R ms tk i)), some (.ref (5 + ms i)), some (.int (nI t)), some (.int 1), some (.int th), some (.int tw), none, none] [] (gv W u q) 0 0 := by
        intro th tw eth etw
        subst eth etw
        have eX : nI i * 6 + 2 * nI (min t 2) + nI (gcz_b w ms i t tk) = nI (6 * i + 2 * min t 2 + gcz_b w ms i t tk) := by
          show nI i * nI 6 + nI 2 * nI (min t 2) + nI (gcz_b w ms i t tk) = _
          rw [pk_mul, pk_mul, nI_add, nI_add]
          congr 1
          omega
        have eX2 : nI i * (Int8.ofInt 6).toInt32 + Int32.ofInt 2 * (if Int32.ofInt 2 < nI t then Int32.ofInt 2 else nI t) + nI (gcz_b w ms i t tk) = nI (6 * i + 2 * min t 2 + gcz_b w ms i t tk) := by
          rw [show (if Int32.ofInt 2 < nI t then Int32.ofInt 2 else nI t) = nI (min t 2) from eMin]
          exact eX
        have eP : W 68 (6 * i + 2 * min t 2 + gcz_b w ms i t tk) = nI (gcz_co w ms PL i t tk) := by
          rw [hY.1 68 (by decide) (by decide) (by decide)]
          exact H68 _ (by omega)
        have cX : (nI (6 * i + 2 * min t 2 + gcz_b w ms i t tk)).toNatClampNeg = 6 * i + 2 * min t 2 + gcz_b w ms i t tk := nI_clamp (by omega)
        have e69 : W 69 (i + 1) = nI (gcz_fl w m ms PL n (i + 1)) := by
          rw [hY.1 69 (by decide) (by decide) (by decide)]
          exact H69 _ (by omega)
        have i1 : nI i + Int32.ofInt 1 = nI (i + 1) := gp_inc rfl
        have c1 : (nI (i + 1)).toNatClampNeg = i + 1 := nI_clamp (by omega)
        have eL := O.1 x W hr
        refine gp_go od_Se_walk rfl ?_
        (repeat refine gp_gc [33, 80, 105, 119, 195] od_Se_walk rfl rfl ?_)
        rw [eX2]
        refine And.intro (vp_in_nI (by omega) (by decide)) ?_
        rw [cX, eP]
        (repeat refine gp_gc [33, 80, 105, 119, 195] od_Se_walk rfl rfl ?_)
        rw [nI_add]
        refine gb1_eq_f (by decide) ?_
        (repeat refine gp_gc [33, 80, 105, 119, 195] od_Se_walk rfl rfl ?_)
        rw [i1]
        refine And.intro (vp_in_nI (by omega) (by decide)) ?_
        rw [c1, e69]
        (repeat refine gp_gc [33, 80, 105, 119, 195] od_Se_walk rfl rfl ?_)
        rw [nI_add]
        by_cases b : W 65 9 < nI (s + gcz_co w ms PL i t tk + gcz_fl w m ms PL n (i + 1))
        · refine gb_gt_t b ?_
          (repeat refine gp_gc [33, 80, 105, 119, 195] od_Se_walk rfl rfl ?_)
          rw [inc]
          refine gp_drop 7 (gp_drop 8 (gp_drop 9 (gp_drop 10 ?_)))
          refine nxt x W hY hr (fun _ _ => rfl) ?_
          rw [Int32.lt_iff_toInt_lt, nI_toInt (by omega), eL] at b
          refine (O.2.2.2.2 x W _ hr (fun e he => ?_) (fun e he => ?_)).symm
          · have := gz_c_le (fun i t tk => (gc_P_e w ms PL _).2) f (i + 1) _ _ e he
            omega
          · have h0 : gcz_fl w m ms PL n n = 0 := by unfold gcz_fl; rw [Nat.sub_self]; rfl
            have := gz_ge (fl := gcz_fl w m ms PL n) n h0 (fun i t tk a b c => gcz_hf i t tk a b c) f (i + 1) _ _ e (by omega) he
            omega
        · refine gb_gt_f b ?_
          (repeat refine gp_gc [33, 80, 105, 119, 195] od_Se_walk rfl rfl ?_)
          refine And.intro ii ?_
          rw [ci]
          have b2 : ((s + gcz_co w ms PL i t tk + gcz_fl w m ms PL n (i + 1) : Nat) : Int) ≤ lim x := by
            rw [Int32.lt_iff_toInt_lt, nI_toInt (by omega), eL] at b
            omega
          have c195 : ∀ ri : Int32, ri = (if t = 1 then 1 <<< (nI (ms i) &&& 31) else 0) → gp_Go l G (d + (f + 1) + 1) m_Se_walk K 195 [some (.ref 65), some (.int (nI i)), some (.int (nI s)), some (.int (gz_T w ms tk i)), some (.int (gz_R ms tk i)), some (.ref (5 + ms i)), some (.int (nI t)), some (.int 1), some (.int (gc_th1 w (ms i) t)), some (.int (nI (gcz_b w ms i t tk))), some (.int (nI (s + gcz_co w ms PL i t tk))), some (.int ri)] [] (gv (gw W 70 i (nI t)) u q) 0 0 := by
            intro ri eri
            refine gp_go od_Se_walk rfl ?_
            (repeat refine gp_gc [33, 80, 105, 119, 195] od_Se_walk rfl rfl ?_)
            rw [i1, eri, ← gz_T_u, ← gz_R_u]
            refine ihC _ (gz_u tk i t) (s + gcz_co w ms PL i t tk) x (gw W 70 i (nI t)) (by omega) (gY_w hY (Or.inl rfl)) (O.2.1 x W _ _ hr) ?_ b2 (fun W1 hY1 hr1 h71 => ?_)
            · intro j hj
              rw [gw_at]
              by_cases c : j = i
              · rw [if_pos c, c, gz_u_at]
                exact ⟨rfl, by omega⟩
              · rw [if_neg c, gz_u_lt (by omega)]
                exact ⟨h70 j (by omega), h4 j (by omega)⟩
            · (repeat refine gp_gc [33, 80, 105, 119, 195] od_Se_walk rfl rfl ?_)
              rw [inc]
              refine gp_drop 7 (gp_drop 8 (gp_drop 9 (gp_drop 10 (gp_drop 11 ?_))))
              refine nxt _ W1 hY1 hr1 (fun j hj => ?_) rfl
              rw [h71 j (by omega), gw_at, if_neg (by omega)]
          (repeat refine gp_gc [33, 80, 105, 119, 195] od_Se_walk rfl rfl ?_)
          by_cases b1 : t = 1
          · refine gb_ne_f (by rw [b1]; rfl) ?_
            (repeat refine gp_gc [33, 80, 105, 119, 195] od_Se_walk rfl rfl ?_)
            refine And.intro ii ?_
            rw [ci]
            (repeat refine gp_gc [33, 80, 105, 119, 195] od_Se_walk rfl rfl ?_)
            refine c195 _ ?_
            rw [if_pos b1]
            have e66 : W 66 i = nI (ms i) := by rw [hY.1 66 (by decide) (by decide) (by decide)]; exact H66 i (by omega)
            rw [e66]
            rfl
          · refine gb_ne_t (fun z => b1 ((nI_eq (b := 1) (by omega) (by decide)).mp z)) ?_
            (repeat refine gp_gc [33, 80, 105, 119, 195] od_Se_walk rfl rfl ?_)
            exact c195 0 (by rw [if_neg b1])
      have c105 : ∀ th : Int32, th = gc_th1 w (ms i) t → gp_Go l G (d + (f + 1) + 1) m_Se_walk K 105 [some (.ref 65), some (.int (nI i)), some (.int (nI s)), some (.int (gz_T w ms tk i)), some (.int (gz_R ms tk i)), some (.ref (5 + ms i)), some (.int (nI t)), some (.int 1), some (.int th), none, none, none] [] (gv W u q) 0 0 := by
        intro th eth
        have c119 := c119 th
        unfold gcz_b at c119
        refine gp_go od_Se_walk rfl ?_
        (repeat refine gp_gc [33, 80, 119] od_Se_walk rfl rfl ?_)
        by_cases b : gz_T w ms tk i &&& th = 0
        · refine gb1_eq_t b ?_
          (repeat refine gp_gc [33, 80, 119] od_Se_walk rfl rfl ?_)
          exact c119 _ eth (by rw [if_pos (by rw [← eth]; exact b)]; rfl)
        · refine gb1_eq_f b ?_
          (repeat refine gp_gc [33, 80, 119] od_Se_walk rfl rfl ?_)
          exact c119 _ eth (by rw [if_neg (by rw [← eth]; exact b)]; rfl)
      refine gp_go od_Se_walk rfl ?_
      (repeat refine gp_gc [33, 80, 105] od_Se_walk rfl rfl ?_)
      by_cases b0 : t = 0
      · refine gb1_eq_t (by rw [b0]; rfl) ?_
        (repeat refine gp_gc [33, 80, 105] od_Se_walk rfl rfl ?_)
        exact c105 _ (by unfold gc_th1; rw [if_pos b0]; rfl)
      · refine gb1_eq_f (nI_ne0 (by omega) (by omega)) ?_
        (repeat refine gp_gc [33, 80, 105] od_Se_walk rfl rfl ?_)
        refine gb1_ne_t (by decide) ?_
        (repeat refine gp_gc [33, 80, 105] od_Se_walk rfl rfl ?_)
        refine gs_inv rfl rfl rfl (gv_mark hmi) rfl ?_
        refine sp_Mk_takenFor (d := d + (f + 1)) (w := W) hmi ?_
        (repeat refine gp_gc [33, 80, 105] od_Se_walk rfl rfl ?_)
        refine c105 _ ?_
        unfold gc_th1 gc_tf
        rw [if_neg b0, eM]
        have q1 : nI t = 1 ↔ t = 1 := nI_eq (b := 1) (by omega) (by decide)
        have q2 : nI t = 2 ↔ t = 2 := nI_eq (b := 2) (by omega) (by decide)
        simp only [q1, q2]
        rfl
    refine gp_go od_Se_walk rfl ?_
    (repeat refine gp_gc [33, 80] od_Se_walk rfl rfl ?_)
    refine gb_ge_f (nI_ge (b := 4) (by omega) (by decide)) ?_
    (repeat refine gp_gc [33, 80] od_Se_walk rfl rfl ?_)
    refine And.intro ii ?_
    rw [ci, e67]
    (repeat refine gp_gc [33, 80] od_Se_walk rfl rfl ?_)
    by_cases b1 : (gc_tv (gc_A w m ms i 1) (gc_A w m ms i 2) (gc_A w m ms i 3) >>> (nI t &&& 31)) &&& 1 = 1
    rotate_left
    · refine gb_ne_t b1 ?_
      (repeat refine gp_gc [33, 80] od_Se_walk rfl rfl ?_)
      refine no ?_
      unfold gcz_ok
      rw [eA] at b1
      simp only [Bool.not_eq_true] at b1
      rw [b1]
      rfl
    refine gb_ne_f b1 ?_
    rw [eA] at b1
    (repeat refine gp_gc [33, 80] od_Se_walk rfl rfl ?_)
    by_cases b2 : t = 1
    rotate_left
    · refine gb_ne_t (fun z => b2 ((nI_eq (b := 1) (by omega) (by decide)).mp z)) ?_
      (repeat refine gp_gc [33, 80] od_Se_walk rfl rfl ?_)
      refine yes ?_
      unfold gcz_ok
      rw [b1, decide_eq_true b2]
      rfl
    refine gb_ne_f (by rw [b2]; rfl) ?_
    (repeat refine gp_gc [33, 80] od_Se_walk rfl rfl ?_)
    refine gs_get (gv_mark hmi) rfl rfl ?_
    rw [eM]
    (repeat refine gp_gc [33, 80] od_Se_walk rfl rfl ?_)
    by_cases b3 : w (5 + ms i) 5 &&& (gz_R ms tk i ^^^ -1) = 0
    · refine gb1_ne_f b3 ?_
      (repeat refine gp_gc [33, 80] od_Se_walk rfl rfl ?_)
      refine yes ?_
      unfold gcz_ok
      rw [b1, decide_eq_true b3, Bool.or_true]
      rfl
    · refine gb1_ne_t b3 ?_
      (repeat refine gp_gc [33, 80] od_Se_walk rfl rfl ?_)
      refine no ?_
      unfold gcz_ok
      have z1 : decide (¬ t = 1) = false := decide_eq_false (fun z => z b2)
      rw [decide_eq_false b3, Bool.or_false, z1, Bool.and_false]
end

end
