section
variable {l : Launch} {G : gp_G} {d : Nat} {w : Nat → Nat → Int32} {u : Int64 × (Nat → Int64)} {q : Nat → Nat} {K : Option Value → gp_H → Prop}
/-! ===== the class's methods: ours ===== -/
/-- a set of places -/
def gq_pl (p : Int32) (n : Nat) (C : Nat → Bool) : Prop := ∀ b, b < 32 → gb p b = (decide (b < n) && C b)
theorem gq_p0 : ∀ n, n ≤ 10 → ∀ b, b < 32 → gb ((1 : Int32) <<< (nI n &&& 31) - 1) b = decide (b < n) := by decide +kernel
section
variable {n nm T : Nat} {ms tl : Nat → Nat} {tm : Nat → Nat → Nat} {D : Nat → gy_D}
def gq_rS (t : Int32) (i : Nat) (s : Int32) : Int32 := if gf_tkI t i = 1 then s ||| 1 <<< (nI i &&& 31) else s
theorem gq_r_b {t : Int32} : ∀ (k : Nat), k ≤ 10 → ∀ b, b < 32 → gb (gp_it (gq_rS t) 0 k 0) b = (decide (b < k) && decide (gf_tkI t b = 1))
  | 0, _, b, _ => by
    show gb 0 b = _
    rw [gb_0]
    simp
  | k + 1, hk, b, hb => by
    rw [gp_it_snoc, Nat.zero_add]
    have ih := gq_r_b (t := t) k (by omega) b hb
    unfold gq_rS
    by_cases c : gf_tkI t k = 1
    · rw [if_pos c, gb_or]
      have ih : gb (gp_it (fun i s => if gf_tkI t i = 1 then s ||| 1 <<< (nI i &&& 31) else s) 0 k 0) b = _ := ih
      rw [ih, gb_1 (by omega) hb]
      by_cases e : b = k
      · rw [e, c]; simp
      · have e1 : decide (b = k) = false := decide_eq_false e
        have e2 : decide (b < k + 1) = decide (b < k) := by simp only [decide_eq_decide]; omega
        rw [e1, e2, Bool.or_false]
    · rw [if_neg c]
      have ih : gb (gp_it (fun i s => if gf_tkI t i = 1 then s ||| 1 <<< (nI i &&& 31) else s) 0 k 0) b = _ := ih
      rw [ih]
      by_cases e : b = k
      · rw [e]; simp [c]
      · have e2 : decide (b < k + 1) = decide (b < k) := by simp only [decide_eq_decide]; omega
        rw [e2]
set_option maxRecDepth 100000 in
theorem sp_Gp_placesTakenRight {V : gp_H} {t x : Int32} (hn : n ≤ 10) (ex : x = nI n) (h : K (some (.int (gp_it (gq_rS t) 0 n 0))) V) : gp_Cal l G (d + 1) m_Gp_placesTakenRight [.int t, .int x] V K := by
  subst ex
  refine gp_enter od_Gp_placesTakenRight rfl ?_
  have loop : ∀ (r j : Nat) (s : Int32), j + r = n → K (some (.int (gp_it (gq_rS t) j r s))) V → gp_Go l G (d + 1) m_Gp_placesTakenRight K 4 [some (.int t), some (.int (nI n)), some (.int s), some (.int (nI j))] [] V 0 0 := by
    intro r
    induction r with
    | zero =>
      intro j s hj hh
      have ej : j = n := by omega
      refine gp_go od_Gp_placesTakenRight rfl ?_
      (repeat refine gp_gc [4] od_Gp_placesTakenRight rfl rfl ?_)
      refine gb_ge_t (by rw [ej]; exact Int32.le_refl _) ?_
      (repeat refine gp_gc [4] od_Gp_placesTakenRight rfl rfl ?_)
      exact hh
    | succ r ih =>
      intro j s hj hh
      have inc : nI j + Int32.ofInt 1 = nI (j + 1) := gp_inc rfl
      have hh : K (some (.int (gp_it (gq_rS t) (j + 1) r (gq_rS t j s)))) V := hh
      refine gp_go od_Gp_placesTakenRight rfl ?_
      (repeat refine gp_gc [4] od_Gp_placesTakenRight rfl rfl ?_)
      refine gb_ge_f (nI_ge (by omega) (by omega)) ?_
      (repeat refine gp_gc [4] od_Gp_placesTakenRight rfl rfl ?_)
      refine sp_Gp_takingAt (d := d) rfl ?_
      (repeat refine gp_gc [4] od_Gp_placesTakenRight rfl rfl ?_)
      by_cases c : gf_tkI t j = 1
      · have e : gq_rS t j s = s ||| 1 <<< (nI j &&& 31) := if_pos c
        rw [e] at hh
        refine gb_ne_f c ?_
        (repeat refine gp_gc [4] od_Gp_placesTakenRight rfl rfl ?_)
        rw [inc]
        exact ih (j + 1) _ (by omega) hh
      · have e : gq_rS t j s = s := if_neg c
        rw [e] at hh
        refine gb_ne_t c ?_
        (repeat refine gp_gc [4] od_Gp_placesTakenRight rfl rfl ?_)
        rw [inc]
        exact ih (j + 1) _ (by omega) hh
  (repeat refine gp_gc [4] od_Gp_placesTakenRight rfl rfl ?_)
  exact loop n 0 0 (by omega) h
set_option maxRecDepth 100000 in
theorem sp_Gp_marksAtPlaces {p : Int32} (hM : gm_P u.1 n ms) (en : w 0 12 = nI n) (h : K (some (.int (gz_mk n ms (gb p)))) (gv w u q)) : gp_Cal l G (d + 1) m_Gp_marksAtPlaces [.ref 0, .int p] (gv w u q) K := by
  refine gp_enter od_Gp_marksAtPlaces rfl ?_
  have hn := hM.2.1
  have loop : ∀ (r j : Nat) (s : Int32), j + r = n → K (some (.int (gp_it (gz_mkS ms (gb p)) j r s))) (gv w u q) → gp_Go l G (d + 1) m_Gp_marksAtPlaces K 4 [some (.ref 0), some (.int p), some (.int s), some (.int (nI j))] [] (gv w u q) 0 0 := by
    intro r
    induction r with
    | zero =>
      intro j s hj hh
      have ej : j = n := by omega
      refine gp_go od_Gp_marksAtPlaces rfl ?_
      (repeat refine gp_gc [4] od_Gp_marksAtPlaces rfl rfl ?_)
      refine gb_ge_t (by rw [en, ej]; exact Int32.le_refl _) ?_
      (repeat refine gp_gc [4] od_Gp_marksAtPlaces rfl rfl ?_)
      exact hh
    | succ r ih =>
      intro j s hj hh
      have inc : nI j + Int32.ofInt 1 = nI (j + 1) := gp_inc rfl
      have hh : K (some (.int (gp_it (gz_mkS ms (gb p)) (j + 1) r (gz_mkS ms (gb p) j s)))) (gv w u q) := hh
      refine gp_go od_Gp_marksAtPlaces rfl ?_
      (repeat refine gp_gc [4] od_Gp_marksAtPlaces rfl rfl ?_)
      refine gb_ge_f (by rw [en]; exact nI_ge (by omega) (by omega)) ?_
      (repeat refine gp_gc [4] od_Gp_marksAtPlaces rfl rfl ?_)
      by_cases c : (p >>> (nI j &&& 31)) &&& 1 = 1
      · have e : gz_mkS ms (gb p) j s = s ||| 1 <<< (nI (ms j) &&& 31) := if_pos ((gb_t1 p (by omega)).mp c)
        rw [e] at hh
        refine gb_ne_f c ?_
        (repeat refine gp_gc [4] od_Gp_marksAtPlaces rfl rfl ?_)
        refine sp_Gp_markAt (d := d) hM rfl (by omega) ?_
        (repeat refine gp_gc [4] od_Gp_marksAtPlaces rfl rfl ?_)
        rw [inc]
        exact ih (j + 1) _ (by omega) hh
      · have e : gz_mkS ms (gb p) j s = s := if_neg (fun z => c ((gb_t1 p (by omega)).mpr z))
        rw [e] at hh
        refine gb_ne_t c ?_
        (repeat refine gp_gc [4] od_Gp_marksAtPlaces rfl rfl ?_)
        rw [inc]
        exact ih (j + 1) _ (by omega) hh
  (repeat refine gp_gc [4] od_Gp_marksAtPlaces rfl rfl ?_)
  exact loop n 0 0 (by omega) h
theorem gq_and {p r : Int32} {C E : Nat → Bool} (h1 : gq_pl p n C) (h2 : gq_pl r n E) : gq_pl (p &&& r) n (fun i => C i && E i) := by
  intro b hb
  rw [gb_and, h1 b hb, h2 b hb]
  show _ = (decide (b < n) && (C b && E b))
  cases decide (b < n) <;> cases C b <;> cases E b <;> rfl
theorem gq_andn {p r : Int32} {C E : Nat → Bool} (h1 : gq_pl p n C) (h2 : gq_pl r n E) : gq_pl (p &&& (r ^^^ -1)) n (fun i => C i && !E i) := by
  intro b hb
  rw [gb_and, gb_not r hb, h1 b hb, h2 b hb]
  show _ = (decide (b < n) && (C b && !E b))
  cases decide (b < n) <;> cases C b <;> cases E b <;> rfl
theorem gq_of {t : Nat} {u : Int64 × (Nat → Int64)} {M : Int64} (hM : gm_P M n ms) (hP : gm_P (u.2 t) (tl t) (tm t)) : (u.2 t = M ∧ tl t = n) ↔ gz_of n ms tl tm t = true := by
  unfold gz_of
  rw [decide_eq_true_iff]
  constructor
  · intro h
    refine ⟨h.2, ?_⟩
    rw [h.2] at hP
    exact (gm_P_eq hP hM).mp h.1
  · intro h
    refine ⟨?_, h.1⟩
    rw [h.1] at hP
    exact (gm_P_eq hP hM).mpr h.2
theorem gq_lcmp {x y : Int64} : lg_cmp x y = 0 ↔ x = y := by
  constructor
  · intro h
    have a := (lg_cmp_ge x y).mp (by rw [h]; exact Int32.le_refl _)
    have b := (lg_cmp_le x y).mp (by rw [h]; exact Int32.le_refl _)
    exact Int64.le_antisymm b a
  · intro h
    have a := (lg_cmp_ge x y).mpr (by rw [h]; exact Int64.le_refl _)
    have b := (lg_cmp_le x y).mpr (by rw [h]; exact Int64.le_refl _)
    exact Int32.le_antisymm b a
set_option maxRecDepth 100000 in
theorem sp_Tr_rightPlaces {M : Int64} {len : Int32} (Jt : gJ_t w u nm T tl tm) (hM : gm_P M n ms) (hn : n ≤ 10) (el : len = nI n) (h : ∀ p, gq_pl p n (if gp_it (gz_so n ms tl tm) 0 T false then gp_it (gz_ot w n ms tl tm) 0 T (fun _ => true) else (fun _ => false)) → K (some (.int p)) (gv w u q)) : gp_Cal l G (d + 2) m_Tr_rightPlaces [.ref 91, .long M, .int len] (gv w u q) K := by
  refine gp_enter od_Tr_rightPlaces rfl ?_
  subst el
  have hT := Jt.2.2.1
  have loop : ∀ (r t : Nat) (so : Bool) (C : Nat → Bool) (p : Int32), t + r = T → gq_pl p n C → gp_it (gz_so n ms tl tm) t r so = gp_it (gz_so n ms tl tm) 0 T false → gp_it (gz_ot w n ms tl tm) t r C = gp_it (gz_ot w n ms tl tm) 0 T (fun _ => true) → gp_Go l G (d + 2) m_Tr_rightPlaces K 13 [some (.ref 91), some (.long M), none, some (.int (nI n)), some (.int (if so then 1 else 0)), some (.int p), some (.int (nI t))] [] (gv w u q) 0 0 := by
    intro r
    induction r with
    | zero =>
      intro t so C p ht hp h1 h2
      have et : t = T := by omega
      have h1 : so = gp_it (gz_so n ms tl tm) 0 T false := h1
      have h2 : C = gp_it (gz_ot w n ms tl tm) 0 T (fun _ => true) := h2
      rw [← h1, ← h2] at h
      refine gp_go od_Tr_rightPlaces rfl ?_
      (repeat refine gp_gc [13] od_Tr_rightPlaces rfl rfl ?_)
      refine gb_ge_t (by rw [Jt.1, et]; exact Int32.le_refl _) ?_
      (repeat refine gp_gc [13] od_Tr_rightPlaces rfl rfl ?_)
      cases so with
      | true =>
        refine gb1_eq_f (by decide) ?_
        (repeat refine gp_gc [13] od_Tr_rightPlaces rfl rfl ?_)
        exact h p hp
      | false =>
        refine gb1_eq_t rfl ?_
        (repeat refine gp_gc [13] od_Tr_rightPlaces rfl rfl ?_)
        refine h 0 (fun b hb => ?_)
        rw [gb_0]
        simp
    | succ r ih =>
      intro t so C p ht hp h1 h2
      obtain ⟨t93, t137, t1, t10, t94, tP, tI⟩ := Jt.2.2.2 t (by omega)
      have ct : (nI t).toNatClampNeg = t := nI_clamp (by omega)
      have it : vp_in (nI t) 40 := vp_in_nI (by omega) (by decide)
      have inc : nI t + Int32.ofInt 1 = nI (t + 1) := gp_inc rfl
      have h1 : gp_it (gz_so n ms tl tm) (t + 1) r (gz_so n ms tl tm t so) = _ := h1
      have h2 : gp_it (gz_ot w n ms tl tm) (t + 1) r (gz_ot w n ms tl tm t C) = _ := h2
      have eO := gq_of (u := u) hM tP
      refine gp_go od_Tr_rightPlaces rfl ?_
      (repeat refine gp_gc [13] od_Tr_rightPlaces rfl rfl ?_)
      refine gb_ge_f (by rw [Jt.1]; exact nI_ge (by omega) (by omega)) ?_
      (repeat refine gp_gc [13] od_Tr_rightPlaces rfl rfl ?_)
      refine And.intro it ?_
      rw [ct]
      (repeat refine gp_gc [13] od_Tr_rightPlaces rfl rfl ?_)
      have no : gz_of n ms tl tm t = false → gp_Go l G (d + 2) m_Tr_rightPlaces K 13 [some (.ref 91), some (.long M), none, some (.int (nI n)), some (.int (if so then 1 else 0)), some (.int p), some (.int (nI (t + 1)))] [] (gv w u q) 0 0 := by
        intro z
        refine ih (t + 1) so C p (by omega) hp ?_ ?_
        · rw [← h1]; unfold gz_so; rw [z, Bool.or_false]
        · rw [← h2]; unfold gz_ot; rw [z]; rfl
      by_cases c1 : u.2 t = M
      rotate_left
      · refine gb1_ne_t (fun z => c1 (gq_lcmp.mp z)) ?_
        (repeat refine gp_gc [13] od_Tr_rightPlaces rfl rfl ?_)
        rw [inc]
        refine no ?_
        by_cases g : gz_of n ms tl tm t = true
        · exact absurd (eO.mpr g).1 c1
        · simpa using g
      refine gb1_ne_f (gq_lcmp.mpr c1) ?_
      (repeat refine gp_gc [13] od_Tr_rightPlaces rfl rfl ?_)
      refine And.intro it ?_
      rw [ct, t93]
      (repeat refine gp_gc [13] od_Tr_rightPlaces rfl rfl ?_)
      by_cases c2 : tl t = n
      rotate_left
      · refine gb_ne_t (fun z => c2 ((nI_eq (by omega) (by omega)).mp z)) ?_
        (repeat refine gp_gc [13] od_Tr_rightPlaces rfl rfl ?_)
        rw [inc]
        refine no ?_
        by_cases g : gz_of n ms tl tm t = true
        · exact absurd (eO.mpr g).2 c2
        · simpa using g
      refine gb_ne_f (by rw [c2]) ?_
      (repeat refine gp_gc [13] od_Tr_rightPlaces rfl rfl ?_)
      refine And.intro it ?_
      rw [ct]
      (repeat refine gp_gc [13] od_Tr_rightPlaces rfl rfl ?_)
      refine sp_Gp_placesTakenRight (d := d) hn rfl ?_
      (repeat refine gp_gc [13] od_Tr_rightPlaces rfl rfl ?_)
      rw [inc]
      have g := eO.mp ⟨c1, c2⟩
      refine ih (t + 1) true (fun i => C i && decide (gf_tkI (w 139 t) i = 1)) _ (by omega) (gq_and hp (fun b hb => ?_)) ?_ ?_
      · rw [gq_r_b n hn b hb, t94]
      · rw [← h1]; unfold gz_so; rw [g, Bool.or_true]
      · rw [← h2]; unfold gz_ot; rw [g]; rfl
  (repeat refine gp_gc [13] od_Tr_rightPlaces rfl rfl ?_)
  exact loop T 0 false (fun _ => true) _ (by omega) (fun b hb => by rw [Bool.and_true]; exact gq_p0 n hn b hb) rfl rfl
/-! takings as digits -/
def gk_pk (tk : Nat → Nat) : Nat → Nat
  | 0 => 0
  | n + 1 => gk_pk tk n + tk n * 4 ^ n
theorem gk_pk_lt {tk : Nat → Nat} : ∀ {n : Nat}, (∀ i, i < n → tk i < 4) → gk_pk tk n < 4 ^ n
  | 0, _ => Nat.one_pos
  | n + 1, h => by
    have a := gk_pk_lt (n := n) (fun i hi => h i (by omega))
    have b := h n (by omega)
    show gk_pk tk n + tk n * 4 ^ n < 4 ^ (n + 1)
    rw [Nat.pow_succ]
    have c : tk n * 4 ^ n ≤ 3 * 4 ^ n := Nat.mul_le_mul_right _ (by omega)
    omega
theorem gk_pk_at {tk : Nat → Nat} : ∀ {n i : Nat}, (∀ i, i < n → tk i < 4) → i < n → gk_pk tk n / 4 ^ i % 4 = tk i
  | 0, _, _, hi => absurd hi (by omega)
  | n + 1, i, h, hi => by
    show (gk_pk tk n + tk n * 4 ^ n) / 4 ^ i % 4 = tk i
    by_cases e : i = n
    · subst e
      rw [Nat.add_mul_div_right _ _ (Nat.pow_pos (by decide)), Nat.div_eq_of_lt (gk_pk_lt (fun j hj => h j (by omega))), Nat.zero_add]
      exact Nat.mod_eq_of_lt (h i hi)
    · have e2 : (4 : Nat) ^ n = 4 ^ (n - i - 1) * 4 * 4 ^ i := by
        rw [← Nat.pow_succ, ← Nat.pow_add]
        congr 1
        omega
      rw [e2, ← Nat.mul_assoc, Nat.add_mul_div_right _ _ (Nat.pow_pos (by decide)), ← Nat.mul_assoc, Nat.add_mul_mod_self_right]
      exact gk_pk_at (fun j hj => h j (by omega)) (by omega)
theorem gk_s2 : ∀ i, i < 10 → (((2 * nI i) &&& 31).toBitVec.smod 32).toNat = 2 * i := by decide +kernel
theorem gk_or {a b : Nat} (ha : a < 2 ^ 32) (hb : b < 2 ^ 32) : nI a ||| nI b = nI (a ||| b) := by
  apply Int32.toBitVec_inj.mp
  apply BitVec.eq_of_toNat_eq
  rw [Int32.toBitVec_or, BitVec.toNat_or, pk_tn ha, pk_tn hb, pk_tn (Nat.or_lt_two_pow ha hb)]
theorem gz_pk_N {tk : Nat → Nat} : ∀ {n : Nat}, n ≤ 10 → (∀ i, i < n → tk i < 4) → gz_pk tk n = nI (gk_pk tk n)
  | 0, _, _ => rfl
  | n + 1, hn, h => by
    have ih := gz_pk_N (tk := tk) (n := n) (by omega) (fun i hi => h i (by omega))
    unfold gz_pk at ih ⊢
    rw [gp_it_snoc, ih, Nat.zero_add]
    show nI (gk_pk tk n) ||| nI (tk n) <<< ((2 * nI n) &&& 31) = nI (gk_pk tk n + tk n * 4 ^ n)
    have lt := gk_pk_lt (tk := tk) (n := n) (fun i hi => h i (by omega))
    have b4 := h n (by omega)
    have p10 : (4 : Nat) ^ n ≤ 4 ^ 9 := Nat.pow_le_pow_right (by decide) (by omega)
    have e4 : (2 : Nat) ^ (2 * n) = 4 ^ n := Nat.pow_mul 2 2 n
    have m4 : tk n * 4 ^ n ≤ 3 * 4 ^ n := Nat.mul_le_mul_right _ (by omega)
    rw [pk_shlN _ (2 * n) (gk_s2 n (by omega)) (by rw [e4]; omega), e4, gk_or (by omega) (by omega)]
    congr 1
    have e2 := Nat.shiftLeft_add_eq_or_of_lt (b := gk_pk tk n) (i := 2 * n) (by rw [e4]; exact lt) (tk n)
    rw [Nat.shiftLeft_eq, e4] at e2
    rw [Nat.or_comm, ← e2, Nat.add_comm]
theorem gz_pk_at {tk : Nat → Nat} {i : Nat} (hn : n ≤ 10) (h : ∀ i, i < n → tk i < 4) (hi : i < n) : gf_tkI (gz_pk tk n) i = nI (tk i) := by
  have lt := gk_pk_lt (tk := tk) (n := n) h
  have p10 : (4 : Nat) ^ n ≤ 4 ^ 10 := Nat.pow_le_pow_right (by decide) (by omega)
  unfold gf_tkI
  rw [gz_pk_N hn h, pk_shrN (by omega) _ (2 * i) (gk_s2 i (by omega)), pk_andN (Nat.lt_of_le_of_lt (Nat.div_le_self _ _) (by omega)) 2 (by decide), Nat.pow_mul]
  congr 1
  exact gk_pk_at h hi
theorem gz_om_f {minds : Int32} {ef : Nat → gz_S} : ∀ (r k : Nat) (C : Nat → Bool), (∀ i, i < n → C i = false) → ∀ i, i < n → gp_it (gz_om minds ef) k r C i = false
  | 0, _, _, h, i, hi => h i hi
  | r + 1, k, C, h, i, hi => by
    refine gz_om_f r (k + 1) (gz_om minds ef k C) (fun j hj => ?_) i hi
    unfold gz_om
    split
    · exact h j hj
    · show (C j && _) = false
      rw [h j hj, Bool.false_and]
set_option maxRecDepth 100000 in
theorem sp_Gp_ours {minds : Int32} {ef : Nat → gz_S} (J : gJ_m w nm) (Q : gJ_q w q D) (hM : gm_P u.1 n ms) (en : w 0 12 = nI n) (hms : ∀ i, i < n → ms i < nm) (Jt : gJ_t w u nm T tl tm) (hef : n ≤ 10 → ∀ k, k < 6 → gz_bs none (gz_all w k ms (D k).2.2.2.2.2.1 n) = some (ef k)) (h1 : 0 ≤ minds ∧ minds ≤ 63 → n ≤ 10 → ∀ W, gs_R w W → K (some (.int (gz_ours w n T ms tl tm ef minds))) (gv W u q)) (h0 : ¬ ((0 ≤ minds ∧ minds ≤ 63) ∧ n ≤ 10) → K (some (.int (-1))) (gv w u q)) : gp_Cal l G (d + 14) m_Gp_ours [.ref 0, .int minds] (gv w u q) K := by
  refine gp_enter od_Gp_ours rfl ?_
  have hn16 := hM.2.1
  have h16 := J.2.2.1
  have hm32 : ∀ i, i < n → ms i < 32 := fun i hi => by have := hms i hi; omega
  (repeat refine gp_gc [39] od_Gp_ours rfl rfl ?_)
  refine sp_Gp_within (fun a1 b1 => ?_) (fun n1 => ?_)
  rotate_left
  · repeat refine gp_gc [39] od_Gp_ours rfl rfl ?_
    first | refine And.intro (fun _ => ?_) (fun c => absurd rfl c) | refine And.intro (fun c => absurd rfl c) (fun _ => ?_)
    repeat refine gp_gc [39] od_Gp_ours rfl rfl ?_
    exact h0 (fun z => n1 z.1)
  repeat refine gp_gc [39] od_Gp_ours rfl rfl ?_
  first | refine And.intro (fun c => absurd c (by decide)) (fun _ => ?_) | refine And.intro (fun _ => ?_) (fun c => absurd c (by decide))
  repeat refine gp_gc [39] od_Gp_ours rfl rfl ?_
  by_cases b3 : n ≤ 10
  rotate_left
  · refine gb_le_f (by rw [en]; exact nI_ge (a := 10) (by omega) (by omega)) ?_
    (repeat refine gp_gc [39] od_Gp_ours rfl rfl ?_)
    exact h0 (fun z => b3 z.2)
  refine gb_le_t (by rw [en]; exact nI_le (b := 10) b3 (by decide)) ?_
  have h1 := h1 ⟨a1, b1⟩ b3
  have hef := hef b3
  have loop : ∀ (r k : Nat) (C : Nat → Bool) (p : Int32) (W : Nat → Nat → Int32), k + r = 6 → gs_R w W → gq_pl p n C → (∀ W, gs_R w W → K (some (.int (gz_mk n ms (gp_it (gz_om minds ef) k r C)))) (gv W u q)) → gp_Go l G (d + 14) m_Gp_ours K 39 [some (.ref 0), some (.int minds), some (.int p), some (.int (nI k))] [] (gv W u q) 0 0 := by
    intro r
    induction r with
    | zero =>
      intro k C p W hk hR hp hh
      have ek : k = 6 := by omega
      have en2 : W 0 12 = nI n := by rw [hR.1 0 rfl (by decide) (by decide)]; exact en
      subst ek
      refine gp_go od_Gp_ours rfl ?_
      (repeat refine gp_gc [39] od_Gp_ours rfl rfl ?_)
      refine gb_ge_t (by decide) ?_
      (repeat refine gp_gc [39] od_Gp_ours rfl rfl ?_)
      refine sp_Gp_marksAtPlaces (d := d + 12) hM en2 ?_
      (repeat refine gp_gc [39] od_Gp_ours rfl rfl ?_)
      rw [gz_mk_congr hm32 (D := C) (fun i hi => by rw [hp i (by omega), decide_eq_true hi, Bool.true_and])]
      exact hh W hR
    | succ r ih =>
      intro k C p W hk hR hp hh
      have inc : nI k + Int32.ofInt 1 = nI (k + 1) := gp_inc rfl
      have JW := gJ_m_R J hR
      have QW := gJ_q_R Q hR
      have en2 : W 0 12 = nI n := by rw [hR.1 0 rfl (by decide) (by decide)]; exact en
      refine gp_go od_Gp_ours rfl ?_
      (repeat refine gp_gc [39] od_Gp_ours rfl rfl ?_)
      refine gb_ge_f (nI_ge (b := 6) (by omega) (by decide)) ?_
      (repeat refine gp_gc [39] od_Gp_ours rfl rfl ?_)
      by_cases c0 : p = 0
      · refine gb1_eq_t c0 ?_
        (repeat refine gp_gc [39] od_Gp_ours rfl rfl ?_)
        refine sp_Gp_marksAtPlaces (d := d + 12) hM en2 ?_
        (repeat refine gp_gc [39] od_Gp_ours rfl rfl ?_)
        have cf : ∀ i, i < n → C i = false := fun i hi => by
          have := hp i (by omega)
          rw [c0, gb_0, decide_eq_true hi, Bool.true_and] at this
          exact this.symm
        have e := gz_om_f (minds := minds) (ef := ef) (r + 1) k C cf
        rw [gz_mk_congr hm32 (D := gp_it (gz_om minds ef) k (r + 1) C) (fun i hi => by rw [e i hi, c0, gb_0])]
        exact hh W hR
      refine gb1_eq_f c0 ?_
      (repeat refine gp_gc [39] od_Gp_ours rfl rfl ?_)
      have hh : ∀ W, gs_R w W → K (some (.int (gz_mk n ms (gp_it (gz_om minds ef) (k + 1) r (gz_om minds ef k C))))) (gv W u q) := hh
      by_cases c1 : (minds >>> (nI k &&& 31)) &&& 1 = 1
      · have e1 : gz_om minds ef k C = fun i => C i && decide (¬ (ef k).2 i = 1) := if_neg (by rw [c1]; decide)
        rw [e1] at hh
        refine gb_ne_f c1 ?_
        (repeat refine gp_gc [39] od_Gp_ours rfl rfl ?_)
        refine sp_Gp_findCheapest (d := d) (w := W) (kn := k) JW QW hM b3 en2 hms (by omega) rfl (fun W2 e HW he hr => ?_)
        have he2 : e = ef k := by
          rw [gz_all_congr (gf_same_R hR), hef k (by omega)] at he
          exact (Option.some.inj he).symm
        have h4 : ∀ j, j < n → e.2 j < 4 := fun j hj => gz_all_4 he j hj
        have hR2 := gs_trans hR (gX_R HW.1)
        have en3 : W2 0 12 = nI n := by rw [hR2.1 0 rfl (by decide) (by decide)]; exact en
        (repeat refine gp_gc [39] od_Gp_ours rfl rfl ?_)
        refine sp_Se_cheapestPacked (d := d + 13) (n := n) (tk := e.2) HW.2.1 b3 hr.2.2.2 ?_
        (repeat refine gp_gc [39] od_Gp_ours rfl rfl ?_)
        rw [en3]
        refine sp_Gp_placesTakenRight (d := d + 12) b3 rfl ?_
        (repeat refine gp_gc [39] od_Gp_ours rfl rfl ?_)
        rw [inc]
        refine ih (k + 1) (fun i => C i && decide (¬ (ef k).2 i = 1)) _ W2 (by omega) hR2 ?_ hh
        have a := gq_andn (n := n) hp (r := gp_it (gq_rS (gz_pk e.2 n)) 0 n 0) (E := fun i => decide ((ef k).2 i = 1)) (fun b hb => by
          rw [gq_r_b n b3 b hb]
          by_cases c : b < n
          · rw [gz_pk_at b3 h4 c, he2]
            have q1 : nI ((ef k).2 b) = 1 ↔ (ef k).2 b = 1 := nI_eq (b := 1) (by have := h4 b c; rw [he2] at this; omega) (by decide)
            simp only [q1]
          · rw [decide_eq_false c, Bool.false_and, Bool.false_and])
        intro b hb
        have a := a b hb
        simp only [decide_not]
        exact a
      · have e1 : gz_om minds ef k C = C := if_pos (by
          rcases (show gb minds k = true ∨ gb minds k = false by cases gb minds k <;> simp) with z | z
          · exact absurd ((gb_t1 minds (by omega)).mpr z) c1
          · exact (gb_t0 minds (by omega)).mpr z)
        rw [e1] at hh
        refine gb_ne_t c1 ?_
        (repeat refine gp_gc [39] od_Gp_ours rfl rfl ?_)
        rw [inc]
        exact ih (k + 1) C p W (by omega) hR hp hh
  (repeat refine gp_gc [39] od_Gp_ours rfl rfl ?_)
  refine sp_Tr_rightPlaces (d := d + 11) Jt hM b3 en (fun p hp => ?_)
  (repeat refine gp_gc [39] od_Gp_ours rfl rfl ?_)
  refine loop 6 0 _ p w (by omega) (gs_refl w) hp (fun W hW => ?_)
  have h1 := h1 W hW
  unfold gz_ours at h1
  cases so : gp_it (gz_so n ms tl tm) 0 T false with
  | true =>
    rw [so, if_pos rfl] at h1
    rw [if_pos rfl]
    exact h1
  | false =>
    rw [so, if_neg (by decide)] at h1
    rw [if_neg (by decide)]
    have z : gz_mk n ms (gp_it (gz_om minds ef) 0 6 (fun _ => false)) = 0 := by
      refine gb_eq (fun b hb => ?_)
      rw [gz_mk_b hb hm32, gb_0]
      constructor
      · intro ⟨i, hi, ci, _⟩
        rw [gz_om_f 6 0 (fun _ => false) (fun _ _ => rfl) i hi] at ci
        exact absurd ci (by decide)
      · intro z
        exact absurd z (by decide)
    rw [z]
    exact h1
end

end
