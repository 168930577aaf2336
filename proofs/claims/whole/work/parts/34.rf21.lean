section
variable {l : Launch} {G : gp_G} {d : Nat} {w : Nat → Nat → Int32} {u : Int64 × (Nat → Int64)} {q : Nat → Nat} {K : Option Value → gp_H → Prop}
/-! ===== the reference's methods: laid ===== -/
theorem gf_mn {a b x y : Nat} (hx : x < a) (hy : y < b) : b * x + y < a * b := by
  have h1 : b * (x + 1) ≤ b * a := Nat.mul_le_mul_left b hx
  rw [Nat.mul_comm a b]
  have h2 : b * (x + 1) = b * x + b := Nat.mul_succ b x
  omega
def gf_ldS (w : Nat → Nat → Int32) (k wd : Int32) (a b y x : Nat) (s : Int32 × Bool) : Int32 × Bool := (s.1 + (if gf_laid w k wd (nI y) (nI x) = w 127 (a * y + x) then 1 else 0), s.2 && decide (gf_laid w k wd (nI y) (nI x) = w 127 (b * x + y)))
def gf_ldR (w : Nat → Nat → Int32) (k wd : Int32) (a b y : Nat) (s : Int32 × Bool) : Int32 × Bool := gp_it (gf_ldS w k wd a b y) 0 a s
def gf_ld (w : Nat → Nat → Int32) (k wd : Int32) (a b : Nat) : Int32 × Bool := gp_it (gf_ldR w k wd a b) 0 b (0, true)
section
variable {k wd what : Int32} {a b : Nat}
set_option maxRecDepth 100000 in
theorem gl_laid1 (i0 : vp_in k 7) (ew : wd = nI a) (hab : a * b ≤ 400) (ha : 0 < a) {y : Nat} (hy : y < b) {hh : Int32} (eh : hh = nI b) (s : Int32 × Bool)
    (hp : ∀ s' : Int32 × Bool, s' = gf_ldR w k wd a b y s → gp_Go l G (d + 2) m_Rf_laid K 55 [some (.ref 95), some (.int k), some (.int wd), some (.int what), some (.int hh), some (.int s'.1), some (.int (if s'.2 then 1 else 0)), some (.int (nI (y + 1))), none] [] (gv w u q) 0 0) :
    ∀ (r x : Nat) (s' : Int32 × Bool), x + r = a → gp_it (gf_ldS w k wd a b y) x r s' = gf_ldR w k wd a b y s → gp_Go l G (d + 2) m_Rf_laid K 65 [some (.ref 95), some (.int k), some (.int wd), some (.int what), some (.int hh), some (.int s'.1), some (.int (if s'.2 then 1 else 0)), some (.int (nI y)), some (.int (nI x))] [] (gv w u q) 0 0 := by
  have hba : b ≤ a * b := Nat.le_mul_of_pos_left b ha
  have hab2 : a ≤ a * b := Nat.le_mul_of_pos_right a (by omega)
  intro r
  induction r with
  | zero =>
    intro x s' hx e
    have e : s' = gf_ldR w k wd a b y s := e
    refine gp_go od_Rf_laid rfl ?_
    (repeat refine gp_gc [55, 65, 103, 106, 144] od_Rf_laid rfl rfl ?_)
    refine gb_ge_t (show wd ≤ nI x by rw [ew]; exact nI_le (by omega) (by omega)) ?_
    (repeat refine gp_gc [55, 65, 103, 106, 144] od_Rf_laid rfl rfl ?_)
    rw [gp_inc (i := y) rfl]
    refine gp_drop 8 ?_
    exact hp s' e
  | succ r ih =>
    intro x s' hx e
    have e : gp_it (gf_ldS w k wd a b y) (x + 1) r (gf_ldS w k wd a b y x s') = gf_ldR w k wd a b y s := e
    have ih := ih (x + 1) _ (by omega) e
    have m1 := gf_mn (a := b) (b := a) hy (show x < a by omega)
    have m2 := gf_mn (a := a) (b := b) (show x < a by omega) hy
    rw [Nat.mul_comm b a] at m1
    have e1 : wd * nI y + nI x = nI (a * y + x) := by rw [ew, pk_mul, nI_add]
    have e2 : hh * nI x + nI y = nI (b * x + y) := by rw [eh, pk_mul, nI_add]
    have c1 : (wd * nI y + nI x).toNatClampNeg = a * y + x := by rw [e1]; exact nI_clamp (by omega)
    have c2 : (hh * nI x + nI y).toNatClampNeg = b * x + y := by rw [e2]; exact nI_clamp (by omega)
    have v1 : vp_in (wd * nI y + nI x) 400 := by rw [e1]; exact vp_in_nI (by omega) (by decide)
    have v2 : vp_in (hh * nI x + nI y) 400 := by rw [e2]; exact vp_in_nI (by omega) (by decide)
    have inc : nI x + Int32.ofInt 1 = nI (x + 1) := gp_inc rfl
    have k144 : ∀ (c : Int32) (hf : Bool), c = (gf_ldS w k wd a b y x s').1 → hf = (gf_ldS w k wd a b y x s').2 → gp_Go l G (d + 2) m_Rf_laid K 144 [some (.ref 95), some (.int k), some (.int wd), some (.int what), some (.int hh), some (.int c), some (.int (if hf then 1 else 0)), some (.int (nI y)), some (.int (nI x))] [] (gv w u q) 0 0 := by
      intro c hf ec ehf
      refine gp_go od_Rf_laid rfl ?_
      (repeat refine gp_gc [55, 65, 103, 106, 144] od_Rf_laid rfl rfl ?_)
      rw [inc, ec, ehf]
      exact ih
    have k106 : ∀ (c : Int32), c = (gf_ldS w k wd a b y x s').1 → gp_Go l G (d + 2) m_Rf_laid K 106 [some (.ref 95), some (.int k), some (.int wd), some (.int what), some (.int hh), some (.int c), some (.int (if s'.2 then 1 else 0)), some (.int (nI y)), some (.int (nI x))] [] (gv w u q) 0 0 := by
      intro c ec
      refine gp_go od_Rf_laid rfl ?_
      (repeat refine gp_gc [55, 65, 103, 106, 144] od_Rf_laid rfl rfl ?_)
      cases hs : s'.2 with
      | false =>
        rw [if_neg (by decide)]
        refine gb1_eq_t rfl ?_
        (repeat refine gp_gc [55, 65, 103, 106, 144] od_Rf_laid rfl rfl ?_)
        exact k144 c false ec (by unfold gf_ldS; rw [hs]; rfl)
      | true =>
        rw [if_pos rfl]
        refine gb1_eq_f (by decide) ?_
        (repeat refine gp_gc [55, 65, 103, 106, 144] od_Rf_laid rfl rfl ?_)
        refine sp_Rf_laidAt (d := d + 1) i0 (gf_ix ew rfl rfl hy (show x < a by omega) hab) ?_
        (repeat refine gp_gc [55, 65, 103, 106, 144] od_Rf_laid rfl rfl ?_)
        refine And.intro v2 ?_
        (repeat refine gp_gc [55, 65, 103, 106, 144] od_Rf_laid rfl rfl ?_)
        rw [c2]
        by_cases c3 : gf_laid w k wd (nI y) (nI x) = w 127 (b * x + y)
        · refine gb_ne_f c3 ?_
          (repeat refine gp_gc [55, 65, 103, 106, 144] od_Rf_laid rfl rfl ?_)
          exact k144 c true ec (by unfold gf_ldS; rw [hs]; simp [c3])
        · refine gb_ne_t c3 ?_
          (repeat refine gp_gc [55, 65, 103, 106, 144] od_Rf_laid rfl rfl ?_)
          exact k144 c false ec (by unfold gf_ldS; rw [hs]; simp [c3])
    refine gp_go od_Rf_laid rfl ?_
    (repeat refine gp_gc [55, 65, 103, 106, 144] od_Rf_laid rfl rfl ?_)
    refine gb_ge_f (show ¬ wd ≤ nI x by rw [ew]; exact nI_ge (by omega) (by omega)) ?_
    (repeat refine gp_gc [55, 65, 103, 106, 144] od_Rf_laid rfl rfl ?_)
    refine sp_Rf_laidAt (d := d + 1) i0 (gf_ix ew rfl rfl hy (show x < a by omega) hab) ?_
    (repeat refine gp_gc [55, 65, 103, 106, 144] od_Rf_laid rfl rfl ?_)
    refine And.intro v1 ?_
    (repeat refine gp_gc [55, 65, 103, 106, 144] od_Rf_laid rfl rfl ?_)
    rw [c1]
    by_cases c3 : gf_laid w k wd (nI y) (nI x) = w 127 (a * y + x)
    · refine gb_ne_f c3 ?_
      (repeat refine gp_gc [55, 65, 106, 144] od_Rf_laid rfl rfl ?_)
      exact k106 _ (by unfold gf_ldS; rw [if_pos c3]; rfl)
    · refine gb_ne_t c3 ?_
      (repeat refine gp_gc [55, 65, 106, 144] od_Rf_laid rfl rfl ?_)
      exact k106 _ (by unfold gf_ldS; rw [if_neg c3]; rfl)
set_option maxRecDepth 100000 in
theorem sp_Rf_laid {N : Nat} (eN : w 95 50 = nI N) (hN : N ≤ 400) (h1 : ∀ a b, 0 ≤ k → k ≤ 5 → wd = nI a → 1 < a → a < N → N = a * b → w 95 51 = w 95 50 → 0 ≤ what → what ≤ 1 → K (some (.int (if what = 0 then (gf_ld w k wd a b).1 else if (gf_ld w k wd a b).2 then 1 else 0))) (gv w u q)) (h0 : ¬ ((0 ≤ k ∧ k ≤ 5) ∧ (∃ a b, wd = nI a ∧ 1 < a ∧ a < N ∧ N = a * b) ∧ w 95 51 = w 95 50 ∧ 0 ≤ what ∧ what ≤ 1) → K (some (.int (-1))) (gv w u q)) : gp_Cal l G (d + 2) m_Rf_laid [.ref 95, .int k, .int wd, .int what] (gv w u q) K := by
  refine gp_enter od_Rf_laid rfl ?_
  (repeat refine gp_gc [55, 65] od_Rf_laid rfl rfl ?_)
  refine sp_Rf_isMind (fun a1 b1 => ?_) (fun n1 => ?_)
  rotate_left
  · repeat refine gp_gc [55, 65] od_Rf_laid rfl rfl ?_
    first | refine And.intro (fun _ => ?_) (fun c => absurd rfl c) | refine And.intro (fun c => absurd rfl c) (fun _ => ?_)
    repeat refine gp_gc [55, 65] od_Rf_laid rfl rfl ?_
    exact h0 (fun z => n1 z.1)
  repeat refine gp_gc [55, 65] od_Rf_laid rfl rfl ?_
  first | refine And.intro (fun c => absurd c (by decide)) (fun _ => ?_) | refine And.intro (fun _ => ?_) (fun c => absurd c (by decide))
  repeat refine gp_gc [55, 65] od_Rf_laid rfl rfl ?_
  have rev : ∀ a b, wd = nI a → 1 < a → a < N → N = a * b → 1 < wd ∧ wd < w 95 50 ∧ w 95 50 - w 95 50 / wd * wd = 0 := by
    intro a b e1 e2 e3 e4
    refine ⟨by rw [e1]; exact nI_lt (a := 1) e2 (by omega), by rw [e1, eN]; exact nI_lt e3 (by omega), ?_⟩
    rw [e1, eN, pk_rem (by omega) (by omega) (by omega), e4, Nat.mul_mod_right]
    rfl
  refine sp_Rf_isWidth (d := d + 1) (fun c1 c2 c3 => ?_) (fun n2 => ?_)
  rotate_left
  · (repeat refine gp_gc [55, 65] od_Rf_laid rfl rfl ?_)
    refine gb1_eq_t rfl ?_
    (repeat refine gp_gc [55, 65] od_Rf_laid rfl rfl ?_)
    exact h0 (fun z => by obtain ⟨a, b, e1, e2, e3, e4⟩ := z.2.1; exact n2 (rev a b e1 e2 e3 e4))
  obtain ⟨a, ha, ew⟩ := nI_of (x := wd) (fun z => absurd (Int32.lt_trans z (show (0 : Int32) < 1 by decide)) (fun z2 => absurd (Int32.lt_trans c1 z2) (by intro z3; exact Int32.lt_irrefl z3)))
  have ha1 : 1 < a := by rw [ew] at c1; exact (nI_ltI (a := 1) (by decide) ha).mp c1
  have haN : a < N := by rw [ew, eN] at c2; exact (nI_ltI ha (by omega)).mp c2
  have hmod : N % a = 0 := by
    rw [eN, ew, pk_rem (by omega) (by omega) (by omega)] at c3
    exact (nI_eq (b := 0) (by have := Nat.mod_lt N (show 0 < a by omega); omega) (by decide)).mp c3
  have hNab : N = a * (N / a) := (Nat.mul_div_cancel' (Nat.dvd_of_mod_eq_zero hmod)).symm
  have hb0 : 0 < N / a := Nat.div_pos (by omega) (by omega)
  (repeat refine gp_gc [55, 65] od_Rf_laid rfl rfl ?_)
  refine gb1_eq_f (by decide) ?_
  (repeat refine gp_gc [55, 65] od_Rf_laid rfl rfl ?_)
  by_cases b4 : w 95 51 = w 95 50
  rotate_left
  · refine gb_ne_t b4 ?_
    (repeat refine gp_gc [55, 65] od_Rf_laid rfl rfl ?_)
    exact h0 (fun z => b4 z.2.2.1)
  refine gb_ne_f b4 ?_
  (repeat refine gp_gc [55, 65] od_Rf_laid rfl rfl ?_)
  refine sp_Rf_isIn (fun a5 b5 => ?_) (fun n5 => ?_)
  rotate_left
  · (repeat refine gp_gc [55, 65] od_Rf_laid rfl rfl ?_)
    refine gb1_ne_f rfl ?_
    (repeat refine gp_gc [55, 65] od_Rf_laid rfl rfl ?_)
    exact h0 (fun z => n5 z.2.2.2)
  (repeat refine gp_gc [55, 65] od_Rf_laid rfl rfl ?_)
  refine gb1_ne_t (by decide) ?_
  (repeat refine gp_gc [55, 65] od_Rf_laid rfl rfl ?_)
  have h1 := h1 a (N / a) a1 b1 ew ha1 haN hNab b4 a5 b5
  have eh : w 95 50 / wd = nI (N / a) := by rw [eN, ew]; exact pk_div (by omega) (by omega) (by omega)
  refine And.intro (fun z => by rw [ew] at z; exact nI_ne0 (by omega) ha z) ?_
  (repeat refine gp_gc [55, 65] od_Rf_laid rfl rfl ?_)
  rw [eh]
  have key : ∀ (r y : Nat) (s : Int32 × Bool), y + r = N / a → gp_it (gf_ldR w k wd a (N / a)) y r s = gf_ld w k wd a (N / a) → gp_Go l G (d + 2) m_Rf_laid K 55 [some (.ref 95), some (.int k), some (.int wd), some (.int what), some (.int (nI (N / a))), some (.int s.1), some (.int (if s.2 then 1 else 0)), some (.int (nI y)), none] [] (gv w u q) 0 0 := by
    intro r
    induction r with
    | zero =>
      intro y s hy e
      have e : s = gf_ld w k wd a (N / a) := e
      rw [← e] at h1
      refine gp_go od_Rf_laid rfl ?_
      (repeat refine gp_gc [55, 65] od_Rf_laid rfl rfl ?_)
      refine gb_ge_t (nI_le (by omega) (by have := Nat.div_le_self N a; omega)) ?_
      (repeat refine gp_gc [55, 65] od_Rf_laid rfl rfl ?_)
      by_cases c : what = 0
      · rw [if_pos c] at h1
        refine gb1_ne_f c ?_
        (repeat refine gp_gc [55, 65] od_Rf_laid rfl rfl ?_)
        exact h1
      · rw [if_neg c] at h1
        refine gb1_ne_t c ?_
        (repeat refine gp_gc [55, 65] od_Rf_laid rfl rfl ?_)
        cases hs : s.2 with
        | false =>
          rw [hs, if_neg (by decide)] at h1
          rw [if_neg (by decide)]
          refine gb1_eq_t rfl ?_
          (repeat refine gp_gc [55, 65] od_Rf_laid rfl rfl ?_)
          exact h1
        | true =>
          rw [hs, if_pos rfl] at h1
          rw [if_pos rfl]
          refine gb1_eq_f (by decide) ?_
          (repeat refine gp_gc [55, 65] od_Rf_laid rfl rfl ?_)
          exact h1
    | succ r ih =>
      intro y s hy e
      have e : gp_it (gf_ldR w k wd a (N / a)) (y + 1) r (gf_ldR w k wd a (N / a) y s) = gf_ld w k wd a (N / a) := e
      refine gp_go od_Rf_laid rfl ?_
      (repeat refine gp_gc [55, 65] od_Rf_laid rfl rfl ?_)
      refine gb_ge_f (nI_ge (by omega) (by have := Nat.div_le_self N a; omega)) ?_
      (repeat refine gp_gc [55, 65] od_Rf_laid rfl rfl ?_)
      refine gl_laid1 (gp_in57 a1 b1) ew (by rw [← hNab]; exact hN) (by omega) (show y < N / a by omega) rfl s (fun s' es => ?_) a 0 s (by omega) rfl
      exact ih (y + 1) s' (by omega) (by rw [es]; exact e)
  exact key (N / a) 0 (0, true) (by omega) rfl
end

end
