section
variable {l : Launch} {G : gp_G} {d : Nat} {w : Nat → Nat → Int32} {u : Int64 × (Nat → Int64)} {q : Nat → Nat} {K : Option Value → gp_H → Prop}
/-! ===== the reference's methods: ours ===== -/
theorem gz_mk_snoc (ms : Nat → Nat) (C : Nat → Bool) : ∀ (k a : Nat) (s : Int32), gp_it (gz_mkS ms C) a (k + 1) s = gz_mkS ms C (a + k) (gp_it (gz_mkS ms C) a k s)
  | 0, a, s => rfl
  | k + 1, a, s => by
    show gp_it (gz_mkS ms C) (a + 1) (k + 1) (gz_mkS ms C a s) = _
    rw [gz_mk_snoc ms C k (a + 1)]
    show _ = gz_mkS ms C (a + (k + 1)) (gp_it (gz_mkS ms C) (a + 1) k (gz_mkS ms C a s))
    rw [show a + 1 + k = a + (k + 1) by omega]
def gz_of (n : Nat) (ms tl : Nat → Nat) (tm : Nat → Nat → Nat) (t : Nat) : Bool := decide (tl t = n ∧ ∀ j, j < n → tm t j = ms j)
def gz_ot (w : Nat → Nat → Int32) (n : Nat) (ms tl : Nat → Nat) (tm : Nat → Nat → Nat) (t : Nat) (C : Nat → Bool) : Nat → Bool := if gz_of n ms tl tm t then (fun i => C i && decide (gf_tkI (w 139 t) i = 1)) else C
def gz_om (minds : Int32) (ef : Nat → gz_S) (k : Nat) (C : Nat → Bool) : Nat → Bool := if (minds >>> (nI k &&& 31)) &&& 1 = 0 then C else (fun i => C i && decide (¬ (ef k).2 i = 1))
def gz_so (n : Nat) (ms tl : Nat → Nat) (tm : Nat → Nat → Nat) (t : Nat) (s : Bool) : Bool := s || gz_of n ms tl tm t
section
variable {n T : Nat} {ms tl : Nat → Nat} {tm : Nat → Nat → Nat} {ef : Nat → gz_S} {PLf : Nat → List (gf_L × gf_L)}
/-- what the reference's ours answers -/
def gz_ours (w : Nat → Nat → Int32) (n T : Nat) (ms tl : Nat → Nat) (tm : Nat → Nat → Nat) (ef : Nat → gz_S) (minds : Int32) : Int32 := if gp_it (gz_so n ms tl tm) 0 T false then gz_mk n ms (gp_it (gz_om minds ef) 0 6 (gp_it (gz_ot w n ms tl tm) 0 T (fun _ => true))) else 0
set_option maxRecDepth 100000 in
theorem gl_ours2 {minds : Int32} (hmi : ∀ kn, kn < 6 → gf_mind w kn (PLf kn)) (hm : gf_ms w n ms) (hn : n ≤ 10) (hd : ∀ i i', i < n → i' < n → ms i = ms i' → i = i') (hef : ∀ k, k < 6 → gz_bs none (gz_all w k ms (PLf k) n) = some (ef k)) (CF : Nat → Bool) (h : ∀ W, gs_R w W → K (some (.int (gz_mk n ms CF))) (gv W u q)) : ∀ (r k : Nat) (C : Nat → Bool) (s : Int32) (W : Nat → Nat → Int32), k + r = 6 → gs_R w W → s = gz_mk n ms C → CF = gp_it (gz_om minds ef) k r C → gp_Go l G (d + 16) m_Rf_ours K 146 [some (.ref 95), some (.int minds), some (.int s), some (.int 1), some (.int (nI k)), none] [] (gv W u q) 0 0 := by
  have hms32 : ∀ i, i < n → ms i < 32 := fun i hi => by have := (hm.2 i hi).2.1; omega
  intro r
  induction r with
  | zero =>
    intro k C s W hk hW es eC
    obtain rfl : k = 6 := by omega
    refine gp_go od_Rf_ours rfl ?_
    (repeat refine gp_gc [28, 58, 84, 146, 174] od_Rf_ours rfl rfl ?_)
    refine gb_ge_t (by decide) ?_
    (repeat refine gp_gc [28, 58, 84, 146, 174] od_Rf_ours rfl rfl ?_)
    rw [es]
    have eC : CF = C := eC
    rw [← eC]
    exact h W hW
  | succ r ih =>
    intro k C s W hk hW es eC
    have eC : CF = gp_it (gz_om minds ef) (k + 1) r (gz_om minds ef k C) := eC
    refine gp_go od_Rf_ours rfl ?_
    (repeat refine gp_gc [28, 58, 84, 146, 174] od_Rf_ours rfl rfl ?_)
    refine gb_ge_f (show ¬ nI 6 ≤ nI k from nI_ge (by omega) (by decide)) ?_
    (repeat refine gp_gc [28, 58, 84, 146, 174] od_Rf_ours rfl rfl ?_)
    by_cases c : (minds >>> (nI k &&& 31)) &&& 1 = 0
    · refine gb1_ne_f c ?_
      (repeat refine gp_gc [28, 58, 84, 146, 174] od_Rf_ours rfl rfl ?_)
      rw [gp_inc (i := k) rfl]
      refine ih (k + 1) C s W (by omega) hW es ?_
      have e1 : gz_om minds ef k C = C := if_pos c
      rw [e1] at eC
      exact eC
    refine gb1_ne_t c ?_
    (repeat refine gp_gc [28, 58, 84, 146, 174] od_Rf_ours rfl rfl ?_)
    have e1 : gz_om minds ef k C = fun i => C i && decide (¬ (ef k).2 i = 1) := if_neg c
    rw [e1] at eC
    refine sp_Rf_seeks (d := d) (kn := k) rfl (by omega) (gf_mind_R hW (hmi k (by omega))) (gs_ms hW hm) hn (fun W2 hW2 hr => ?_)
    rw [gz_all_congr (gf_same_R hW), hef k (by omega)] at hr
    have hW3 := gs_trans hW hW2
    have hm2 := gs_ms hW3 hm
    have h4 : ∀ i, i < n → (ef k).2 i < 4 := fun i hi => gz_all_4 (hef k (by omega)) i hi
    (repeat refine gp_gc [28, 58, 84, 146, 174] od_Rf_ours rfl rfl ?_)
    have key : ∀ (r' j : Nat) (C' : Nat → Bool) (s : Int32), j + r' = n → s = gz_mk n ms C' → (∀ i, i < n → C' i = if i < j then (C i && decide (¬ (ef k).2 i = 1)) else C i) → gp_Go l G (d + 16) m_Rf_ours K 174 [some (.ref 95), some (.int minds), some (.int s), some (.int 1), some (.int (nI k)), some (.int (nI j))] [] (gv W2 u q) 0 0 := by
      intro r'
      induction r' with
      | zero =>
        intro j C' s hj es hC
        refine gp_go od_Rf_ours rfl ?_
        (repeat refine gp_gc [28, 58, 84, 146, 174] od_Rf_ours rfl rfl ?_)
        refine gb_ge_t (show W2 95 2 ≤ nI j by rw [hm2.1]; exact nI_le (by omega) (by omega)) ?_
        (repeat refine gp_gc [28, 58, 84, 146, 174] od_Rf_ours rfl rfl ?_)
        rw [gp_inc (i := k) rfl]
        refine gp_drop 5 ?_
        refine ih (k + 1) _ s W2 (by omega) hW3 ?_ eC
        rw [es]
        exact gz_mk_congr hms32 (fun i hi => by rw [hC i hi, if_pos (by omega)])
      | succ r' ih' =>
        intro j C' s hj es hC
        have cj : (nI j).toNatClampNeg = j := nI_clamp (by omega)
        have hj4 := h4 j (by omega)
        refine gp_go od_Rf_ours rfl ?_
        (repeat refine gp_gc [28, 58, 84, 146, 174] od_Rf_ours rfl rfl ?_)
        refine gb_ge_f (show ¬ W2 95 2 ≤ nI j by rw [hm2.1]; exact nI_ge (by omega) (by omega)) ?_
        (repeat refine gp_gc [28, 58, 84, 146, 174] od_Rf_ours rfl rfl ?_)
        refine And.intro (vp_in_nI (by omega) (by decide)) ?_
        (repeat refine gp_gc [28, 58, 84, 146, 174] od_Rf_ours rfl rfl ?_)
        rw [cj, hr.2.2 j (by omega)]
        by_cases c2 : (ef k).2 j = 1
        · refine gb_ne_f (show nI ((ef k).2 j) = nI 1 by rw [c2]) ?_
          (repeat refine gp_gc [28, 58, 84, 146, 174] od_Rf_ours rfl rfl ?_)
          refine And.intro (vp_in_nI (by omega) (by decide)) ?_
          (repeat refine gp_gc [28, 58, 84, 146, 174] od_Rf_ours rfl rfl ?_)
          rw [cj, (hm2.2 j (by omega)).1, gp_inc (i := j) rfl]
          refine ih' (j + 1) (fun i => C' i && decide (i ≠ j)) _ (by omega) (by rw [es]; exact gz_mk_off hms32 hd (by omega)) (fun i hi => ?_)
          rw [hC i hi]
          by_cases e : i = j
          · subst e
            rw [if_neg (by omega), if_pos (by omega), c2]
            simp
          · by_cases e2 : i < j
            · rw [if_pos e2, if_pos (by omega)]; simp [e]
            · rw [if_neg e2, if_neg (by omega)]; simp [e]
        · refine gb_ne_t (fun z => c2 ((nI_eq (b := 1) (by omega) (by decide)).mp z)) ?_
          (repeat refine gp_gc [28, 58, 84, 146, 174] od_Rf_ours rfl rfl ?_)
          rw [gp_inc (i := j) rfl]
          refine ih' (j + 1) C' s (by omega) es (fun i hi => ?_)
          rw [hC i hi]
          by_cases e : i = j
          · subst e
            rw [if_neg (by omega), if_pos (by omega)]
            simp [c2]
          · by_cases e2 : i < j
            · rw [if_pos e2, if_pos (by omega)]
            · rw [if_neg e2, if_neg (by omega)]
    exact key n 0 C s (by omega) es (fun i hi => by rw [if_neg (by omega)])
set_option maxRecDepth 100000 in
theorem gl_ours1 {minds : Int32} (hm : gf_ms w n ms) (hn : n ≤ 10) (hd : ∀ i i', i < n → i' < n → ms i = ms i' → i = i') (htr : gf_tr w T tl tm) (h0 : gp_it (gz_so n ms tl tm) 0 T false = false → K (some (.int 0)) (gv w u q)) (h : gp_it (gz_so n ms tl tm) 0 T false = true → ∀ s, s = gz_mk n ms (gp_it (gz_ot w n ms tl tm) 0 T (fun _ => true)) → gp_Go l G (d + 16) m_Rf_ours K 146 [some (.ref 95), some (.int minds), some (.int s), some (.int 1), some (.int (nI 0)), none] [] (gv w u q) 0 0) : ∀ (r t : Nat) (C : Nat → Bool) (so : Bool) (s : Int32), t + r = T → s = gz_mk n ms C → gp_it (gz_so n ms tl tm) t r so = gp_it (gz_so n ms tl tm) 0 T false → gp_it (gz_ot w n ms tl tm) t r C = gp_it (gz_ot w n ms tl tm) 0 T (fun _ => true) → gp_Go l G (d + 16) m_Rf_ours K 58 [some (.ref 95), some (.int minds), some (.int s), some (.int (if so then 1 else 0)), some (.int (nI t)), none] [] (gv w u q) 0 0 := by
  have hms32 : ∀ i, i < n → ms i < 32 := fun i hi => by have := (hm.2 i hi).2.1; omega
  intro r
  induction r with
  | zero =>
    intro t C so s ht es e1 e2
    have e1 : so = gp_it (gz_so n ms tl tm) 0 T false := e1
    have e2 : C = gp_it (gz_ot w n ms tl tm) 0 T (fun _ => true) := e2
    refine gp_go od_Rf_ours rfl ?_
    (repeat refine gp_gc [28, 58, 84, 146, 174] od_Rf_ours rfl rfl ?_)
    refine gb_ge_t (show w 95 65 ≤ nI t by rw [htr.1]; exact nI_le (by omega) (by have := htr.2.1; omega)) ?_
    (repeat refine gp_gc [28, 58, 84, 146, 174] od_Rf_ours rfl rfl ?_)
    cases so with
    | false =>
      rw [if_neg (by decide)]
      refine gb1_ne_f rfl ?_
      (repeat refine gp_gc [28, 58, 84, 146, 174] od_Rf_ours rfl rfl ?_)
      exact h0 e1.symm
    | true =>
      rw [if_pos rfl]
      refine gb1_ne_t (by decide) ?_
      (repeat refine gp_gc [28, 58, 84, 146, 174] od_Rf_ours rfl rfl ?_)
      exact h e1.symm s (by rw [es, ← e2])
  | succ r ih =>
    intro t C so s ht es e1 e2
    have e1 : gp_it (gz_so n ms tl tm) (t + 1) r (gz_so n ms tl tm t so) = _ := e1
    have e2 : gp_it (gz_ot w n ms tl tm) (t + 1) r (gz_ot w n ms tl tm t C) = _ := e2
    have hT := htr.2.1
    obtain ⟨L1, L2, L3, L4⟩ := htr.2.2 t (by omega)
    have ct : (nI t).toNatClampNeg = t := nI_clamp (by omega)
    have hiff : (w 137 t = w 95 2 ∧ ∀ j, j < n → w 138 (10 * t + j) = w 105 j) ↔ gz_of n ms tl tm t = true := by
      unfold gz_of
      rw [decide_eq_true_iff, L1, hm.1]
      constructor
      · rintro ⟨a, b⟩
        have a := (nI_eq (by omega) (by omega)).mp a
        refine ⟨a, fun j hj => ?_⟩
        have := b j hj
        rw [(L4 j (by omega)).1, (hm.2 j hj).1] at this
        exact (nI_eq (by have := (L4 j (by omega)).2.1; omega) (by have := (hm.2 j hj).2.1; omega)).mp this
      · rintro ⟨a, b⟩
        refine ⟨by rw [a], fun j hj => ?_⟩
        rw [(L4 j (by omega)).1, (hm.2 j hj).1, b j hj]
    refine gp_go od_Rf_ours rfl ?_
    (repeat refine gp_gc [28, 58, 84, 146, 174] od_Rf_ours rfl rfl ?_)
    refine gb_ge_f (show ¬ w 95 65 ≤ nI t by rw [htr.1]; exact nI_ge (by omega) (by omega)) ?_
    (repeat refine gp_gc [28, 58, 84, 146, 174] od_Rf_ours rfl rfl ?_)
    refine sp_Rf_isOfThis (d := d + 15) hm.1 hn rfl (show t < 40 by omega) (fun c1 c2 => ?_) (fun c => ?_)
    rotate_left
    · have hf : ¬ gz_of n ms tl tm t = true := fun z => c (hiff.mpr z)
      have x1 : gz_so n ms tl tm t so = so := by unfold gz_so; simp [hf]
      have x2 : gz_ot w n ms tl tm t C = C := if_neg hf
      rw [x1] at e1
      rw [x2] at e2
      (repeat refine gp_gc [28, 58, 84, 146, 174] od_Rf_ours rfl rfl ?_)
      refine gb1_ne_f rfl ?_
      (repeat refine gp_gc [28, 58, 84, 146, 174] od_Rf_ours rfl rfl ?_)
      rw [gp_inc (i := t) rfl]
      exact ih (t + 1) C so s (by omega) es e1 e2
    have hf : gz_of n ms tl tm t = true := hiff.mp ⟨c1, c2⟩
    have x1 : gz_so n ms tl tm t so = true := by unfold gz_so; simp [hf]
    have x2 : gz_ot w n ms tl tm t C = fun i => C i && decide (gf_tkI (w 139 t) i = 1) := if_pos hf
    rw [x1] at e1
    rw [x2] at e2
    (repeat refine gp_gc [28, 58, 84, 146, 174] od_Rf_ours rfl rfl ?_)
    refine gb1_ne_t (by decide) ?_
    (repeat refine gp_gc [28, 58, 84, 146, 174] od_Rf_ours rfl rfl ?_)
    have key : ∀ (r' j : Nat) (C' : Nat → Bool) (s : Int32), j + r' = n → s = gz_mk n ms C' → (∀ i, i < n → C' i = if i < j then (C i && decide (gf_tkI (w 139 t) i = 1)) else C i) → gp_Go l G (d + 16) m_Rf_ours K 84 [some (.ref 95), some (.int minds), some (.int s), some (.int 1), some (.int (nI t)), some (.int (nI j))] [] (gv w u q) 0 0 := by
      intro r'
      induction r' with
      | zero =>
        intro j C' s hj es hC
        refine gp_go od_Rf_ours rfl ?_
        (repeat refine gp_gc [28, 58, 84, 146, 174] od_Rf_ours rfl rfl ?_)
        refine gb_ge_t (show w 95 2 ≤ nI j by rw [hm.1]; exact nI_le (by omega) (by omega)) ?_
        (repeat refine gp_gc [28, 58, 84, 146, 174] od_Rf_ours rfl rfl ?_)
        rw [gp_inc (i := t) rfl]
        refine gp_drop 5 ?_
        refine ih (t + 1) _ true s (by omega) ?_ e1 e2
        rw [es]
        exact gz_mk_congr hms32 (fun i hi => by rw [hC i hi, if_pos (by omega)])
      | succ r' ih' =>
        intro j C' s hj es hC
        have cj : (nI j).toNatClampNeg = j := nI_clamp (by omega)
        refine gp_go od_Rf_ours rfl ?_
        (repeat refine gp_gc [28, 58, 84, 146, 174] od_Rf_ours rfl rfl ?_)
        refine gb_ge_f (show ¬ w 95 2 ≤ nI j by rw [hm.1]; exact nI_ge (by omega) (by omega)) ?_
        (repeat refine gp_gc [28, 58, 84, 146, 174] od_Rf_ours rfl rfl ?_)
        refine And.intro (vp_in_nI (by omega) (by decide)) ?_
        (repeat refine gp_gc [28, 58, 84, 146, 174] od_Rf_ours rfl rfl ?_)
        rw [ct]
        by_cases c2 : gf_tkI (w 139 t) j = 1
        · refine gb_eq_t c2 ?_
          (repeat refine gp_gc [28, 58, 84, 146, 174] od_Rf_ours rfl rfl ?_)
          rw [gp_inc (i := j) rfl]
          refine ih' (j + 1) C' s (by omega) es (fun i hi => ?_)
          rw [hC i hi]
          by_cases e : i = j
          · subst e
            rw [if_neg (by omega), if_pos (by omega)]
            simp [c2]
          · by_cases e2 : i < j
            · rw [if_pos e2, if_pos (by omega)]
            · rw [if_neg e2, if_neg (by omega)]
        · refine gb_eq_f c2 ?_
          (repeat refine gp_gc [28, 58, 84, 146, 174] od_Rf_ours rfl rfl ?_)
          refine And.intro (vp_in_nI (by omega) (by decide)) ?_
          (repeat refine gp_gc [28, 58, 84, 146, 174] od_Rf_ours rfl rfl ?_)
          rw [cj, (hm.2 j (by omega)).1, gp_inc (i := j) rfl]
          refine ih' (j + 1) (fun i => C' i && decide (i ≠ j)) _ (by omega) (by rw [es]; exact gz_mk_off hms32 hd (by omega)) (fun i hi => ?_)
          rw [hC i hi]
          by_cases e : i = j
          · subst e
            rw [if_neg (by omega), if_pos (by omega)]
            simp [c2]
          · by_cases e2 : i < j
            · rw [if_pos e2, if_pos (by omega)]; simp [e]
            · rw [if_neg e2, if_neg (by omega)]; simp [e]
    exact key n 0 C s (by omega) es (fun i hi => by rw [if_neg (by omega)])
set_option maxRecDepth 100000 in
theorem sp_Rf_ours {minds : Int32} (hmi : ∀ kn, kn < 6 → gf_mind w kn (PLf kn)) (hm : gf_ms w n ms) (hn : n ≤ 16) (hd : ∀ i i', i < n → i' < n → ms i = ms i' → i = i') (htr : gf_tr w T tl tm) (hef : n ≤ 10 → ∀ k, k < 6 → gz_bs none (gz_all w k ms (PLf k) n) = some (ef k)) (h1 : 0 ≤ minds ∧ minds ≤ 63 → n ≤ 10 → ∀ W, gs_R w W → K (some (.int (gz_ours w n T ms tl tm ef minds))) (gv W u q)) (h0 : ¬ ((0 ≤ minds ∧ minds ≤ 63) ∧ n ≤ 10) → K (some (.int (-1))) (gv w u q)) : gp_Cal l G (d + 16) m_Rf_ours [.ref 95, .int minds] (gv w u q) K := by
  refine gp_enter od_Rf_ours rfl ?_
  (repeat refine gp_gc [28, 58, 84, 146, 174] od_Rf_ours rfl rfl ?_)
  refine sp_Rf_isIn (fun a1 b1 => ?_) (fun n1 => ?_)
  rotate_left
  · repeat refine gp_gc [28, 58, 84, 146, 174] od_Rf_ours rfl rfl ?_
    first | refine And.intro (fun _ => ?_) (fun c => absurd rfl c) | refine And.intro (fun c => absurd rfl c) (fun _ => ?_)
    repeat refine gp_gc [28, 58, 84, 146, 174] od_Rf_ours rfl rfl ?_
    exact h0 (fun z => n1 z.1)
  repeat refine gp_gc [28, 58, 84, 146, 174] od_Rf_ours rfl rfl ?_
  first | refine And.intro (fun c => absurd c (by decide)) (fun _ => ?_) | refine And.intro (fun _ => ?_) (fun c => absurd c (by decide))
  repeat refine gp_gc [28, 58, 84, 146, 174] od_Rf_ours rfl rfl ?_
  by_cases b3 : n ≤ 10
  rotate_left
  · refine gb_le_f (show ¬ w 95 2 ≤ nI 10 by rw [hm.1]; exact nI_ge (by omega) (by omega)) ?_
    (repeat refine gp_gc [28, 58, 84, 146, 174] od_Rf_ours rfl rfl ?_)
    exact h0 (fun z => b3 z.2)
  refine gb_le_t (show w 95 2 ≤ nI 10 by rw [hm.1]; exact nI_le b3 (by decide)) ?_
  (repeat refine gp_gc [28, 58, 84, 146, 174] od_Rf_ours rfl rfl ?_)
  have h1 := h1 ⟨a1, b1⟩ b3
  unfold gz_ours at h1
  have key : ∀ (r j : Nat) (s : Int32), j + r = n → s = gz_mk j ms (fun _ => true) → gp_Go l G (d + 16) m_Rf_ours K 28 [some (.ref 95), some (.int minds), some (.int s), some (.int 0), some (.int (nI j)), none] [] (gv w u q) 0 0 := by
    intro r
    induction r with
    | zero =>
      intro j s hj es
      obtain rfl : j = n := by omega
      refine gp_go od_Rf_ours rfl ?_
      (repeat refine gp_gc [28, 58, 84, 146, 174] od_Rf_ours rfl rfl ?_)
      refine gb_ge_t (show w 95 2 ≤ nI j by rw [hm.1]; exact Int32.le_refl _) ?_
      (repeat refine gp_gc [28, 58, 84, 146, 174] od_Rf_ours rfl rfl ?_)
      refine gl_ours1 hm b3 hd htr (fun c => ?_) (fun c s es => ?_) T 0 (fun _ => true) false s (by omega) es rfl rfl
      · have := h1 w (gs_refl w)
        rw [c, if_neg (by decide)] at this
        exact this
      · rw [if_pos c] at h1
        exact gl_ours2 hmi hm b3 hd (hef b3) _ h1 6 0 _ s w rfl (gs_refl w) es rfl
    | succ r ih =>
      intro j s hj es
      have cj : (nI j).toNatClampNeg = j := nI_clamp (by omega)
      refine gp_go od_Rf_ours rfl ?_
      (repeat refine gp_gc [28, 58, 84, 146, 174] od_Rf_ours rfl rfl ?_)
      refine gb_ge_f (show ¬ w 95 2 ≤ nI j by rw [hm.1]; exact nI_ge (by omega) (by omega)) ?_
      (repeat refine gp_gc [28, 58, 84, 146, 174] od_Rf_ours rfl rfl ?_)
      refine And.intro (vp_in_nI (by omega) (by decide)) ?_
      (repeat refine gp_gc [28, 58, 84, 146, 174] od_Rf_ours rfl rfl ?_)
      rw [cj, (hm.2 j (by omega)).1, gp_inc (i := j) rfl]
      refine ih (j + 1) _ (by omega) ?_
      unfold gz_mk at es ⊢
      rw [gz_mk_snoc, ← es, Nat.zero_add]
      rfl
  exact key n 0 0 (by omega) rfl
end

end
