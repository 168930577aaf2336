section
variable {l : Launch} {G : gp_G} {d : Nat} {w : Nat → Nat → Int32} {u : Int64 × (Nat → Int64)} {q : Nat → Nat} {K : Option Value → gp_H → Prop}
/-! ===== the class's rows of bits: edges ===== -/
def gsm (f : Nat → Nat) : Nat → Nat
  | 0 => 0
  | n + 1 => gsm f n + f n
theorem gsm_congr {f g : Nat → Nat} : ∀ {n : Nat}, (∀ i, i < n → f i = g i) → gsm f n = gsm g n
  | 0, _ => rfl
  | n + 1, h => by
    show gsm f n + f n = gsm g n + g n
    rw [gsm_congr (fun i hi => h i (by omega)), h n (by omega)]
theorem gsm_add {f g : Nat → Nat} : ∀ {n : Nat}, gsm (fun i => f i + g i) n = gsm f n + gsm g n
  | 0 => rfl
  | n + 1 => by
    show gsm (fun i => f i + g i) n + (f n + g n) = gsm f n + f n + (gsm g n + g n)
    rw [gsm_add]
    omega
theorem gsm_0 : ∀ {n : Nat}, gsm (fun _ => 0) n = 0
  | 0 => rfl
  | n + 1 => by
    show gsm (fun _ => 0) n + 0 = 0
    rw [gsm_0]
theorem gsm_app {f : Nat → Nat} {m : Nat} : ∀ {n : Nat}, gsm f (m + n) = gsm f m + gsm (fun i => f (m + i)) n
  | 0 => rfl
  | n + 1 => by
    show gsm f (m + n) + f (m + n) = gsm f m + (gsm (fun i => f (m + i)) n + f (m + n))
    rw [gsm_app]
    omega
theorem gsm_mul {f : Nat → Nat} {a : Nat} : ∀ {b : Nat}, gsm f (a * b) = gsm (fun y => gsm (fun x => f (a * y + x)) a) b
  | 0 => rfl
  | b + 1 => by
    rw [Nat.mul_succ, gsm_app, gsm_mul]
    rfl
theorem gsm_hd {f : Nat → Nat} : ∀ {n : Nat}, gsm f (n + 1) = f 0 + gsm (fun i => f (i + 1)) n
  | 0 => by show 0 + f 0 = f 0 + 0; omega
  | n + 1 => by
    show gsm f (n + 1) + f (n + 1) = f 0 + (gsm (fun i => f (i + 1)) n + f (n + 1))
    rw [gsm_hd]
    omega
theorem gsm_shift (c : Nat → Nat) : ∀ (n : Nat), gsm (fun x => if x + 1 < n then c x else 0) n = gsm (fun x => if 0 < x then c (x - 1) else 0) n
  | 0 => rfl
  | n + 1 => by
    rw [gsm_hd (f := fun x => if 0 < x then c (x - 1) else 0)]
    show gsm (fun x => if x + 1 < n + 1 then c x else 0) n + (if n + 1 < n + 1 then c n else 0) = (if 0 < 0 then c (0 - 1) else 0) + gsm (fun i => if 0 < i + 1 then c (i + 1 - 1) else 0) n
    rw [if_neg (by omega), if_neg (by omega), Nat.zero_add, Nat.add_zero]
    refine gsm_congr (fun i hi => ?_)
    rw [if_pos (by omega), if_pos (by omega)]
    rfl
theorem gsm_rev (f : Nat → Nat) : ∀ (n : Nat), gsm (fun x => f (n - 1 - x)) n = gsm f n
  | 0 => rfl
  | n + 1 => by
    rw [gsm_hd]
    show f (n + 1 - 1 - 0) + gsm (fun i => f (n + 1 - 1 - (i + 1))) n = gsm f n + f n
    rw [show n + 1 - 1 - 0 = n by omega, Nat.add_comm]
    congr 1
    rw [← gsm_rev f n]
    refine gsm_congr (fun i hi => ?_)
    congr 1
    omega
theorem gsm_it {f : Nat → Int32 → Int32} {F : Nat → Nat} : ∀ {k : Nat} {s : Int32}, (∀ i s, i < k → f i s = s + nI (F i)) → gp_it f 0 k s = s + nI (gsm F k)
  | 0, s, _ => by
    show s = s + nI 0
    rw [nI_0, Int32.add_zero]
  | k + 1, s, h => by
    rw [gp_it_snoc, Nat.zero_add, gsm_it (fun i s hi => h i s (by omega)), h k _ (by omega), Int32.add_assoc, nI_add]
    rfl
theorem gq_ifN {c : Prop} {inst : Decidable c} : (@ite Int32 c inst 1 0) = nI (@ite Nat c inst 1 0) := by
  by_cases h : c
  · rw [if_pos h, if_pos h]; rfl
  · rw [if_neg h, if_neg h]; rfl
def gc_edS (w : Nat → Nat → Int32) (a N i : Nat) (s : Int32) : Int32 := s + (if i % a + 1 < a ∧ i + 1 < N ∧ ¬ w 77 i = w 77 (i + 1) then 1 else 0) + (if i + a < N ∧ ¬ w 77 i = w 77 (i + a) then 1 else 0)
section
variable {N Ng a b : Nat}
set_option maxRecDepth 100000 in
theorem sp_Br_edges {wd : Int32} (eN : w 76 1 = nI N) (hN : N ≤ 400) (ew : wd = nI a) (ha : 0 < a) (ha4 : a ≤ 400) (h : K (some (.int (gp_it (gc_edS w a N) 0 N 0))) (gv w u q)) : gp_Cal l G (d + 0) m_Br_edges [.ref 76, .int wd] (gv w u q) K := by
  refine gp_enter od_Br_edges rfl ?_
  subst ew
  have loop : ∀ (r i : Nat) (s : Int32), i + r = N → K (some (.int (gp_it (gc_edS w a N) i r s))) (gv w u q) → gp_Go l G (d + 0) m_Br_edges K 7 [some (.ref 76), some (.int (nI a)), some (.int s), some (.int (nI (i % a))), some (.int (nI i))] [] (gv w u q) 0 0 := by
    intro r
    induction r with
    | zero =>
      intro i s hi hh
      have ei : i = N := by omega
      refine gp_go od_Br_edges rfl ?_
      (repeat refine gp_gc [7, 57, 64, 97] od_Br_edges rfl rfl ?_)
      refine gb_ge_t (by rw [eN, ei]; exact Int32.le_refl _) ?_
      (repeat refine gp_gc [7, 57, 64, 97] od_Br_edges rfl rfl ?_)
      exact hh
    | succ r ih =>
      intro i s hi hh
      have hh : K (some (.int (gp_it (gc_edS w a N) (i + 1) r (gc_edS w a N i s)))) (gv w u q) := hh
      have hm := Nat.mod_lt i ha
      have inci : nI i + Int32.ofInt 1 = nI (i + 1) := gp_inc rfl
      have incx : nI (i % a) + Int32.ofInt 1 = nI (i % a + 1) := gp_inc rfl
      have ci : (nI i).toNatClampNeg = i := nI_clamp (by omega)
      have ci1 : (nI (i + 1)).toNatClampNeg = i + 1 := nI_clamp (by omega)
      have eia : nI i + nI a = nI (i + a) := nI_add _ _
      have cia : (nI (i + a)).toNatClampNeg = i + a := nI_clamp (by omega)
      have ii : vp_in (nI i) 400 := vp_in_nI (by omega) (by decide)
      have e1 : gc_edS w a N i s = s + (if i % a + 1 < a ∧ i + 1 < N ∧ ¬ w 77 i = w 77 (i + 1) then 1 else 0) + (if i + a < N ∧ ¬ w 77 i = w 77 (i + a) then 1 else 0) := rfl
      have k97 : ∀ s', s' = gc_edS w a N i s → gp_Go l G (d + 0) m_Br_edges K 97 [some (.ref 76), some (.int (nI a)), some (.int s'), some (.int (nI ((i + 1) % a))), some (.int (nI i))] [] (gv w u q) 0 0 := by
        intro s' es
        subst es
        refine gp_go od_Br_edges rfl ?_
        (repeat refine gp_gc [7, 57, 64, 97] od_Br_edges rfl rfl ?_)
        rw [inci]
        exact ih (i + 1) _ (by omega) hh
      have k64 : ∀ s', s' = s + (if i % a + 1 < a ∧ i + 1 < N ∧ ¬ w 77 i = w 77 (i + 1) then 1 else 0) → gp_Go l G (d + 0) m_Br_edges K 64 [some (.ref 76), some (.int (nI a)), some (.int s'), some (.int (nI ((i + 1) % a))), some (.int (nI i))] [] (gv w u q) 0 0 := by
        intro s' es
        rw [e1, ← es] at k97
        refine gp_go od_Br_edges rfl ?_
        (repeat refine gp_gc [7, 57, 64, 97] od_Br_edges rfl rfl ?_)
        rw [eia]
        by_cases c1 : i + a < N
        rotate_left
        · refine gb_ge_t (by rw [eN]; exact nI_le (by omega) (by omega)) ?_
          (repeat refine gp_gc [7, 57, 64, 97] od_Br_edges rfl rfl ?_)
          exact k97 _ (by rw [if_neg (fun z => c1 z.1), Int32.add_zero])
        refine gb_ge_f (by rw [eN]; exact nI_ge c1 (by omega)) ?_
        (repeat refine gp_gc [7, 57, 64, 97] od_Br_edges rfl rfl ?_)
        refine And.intro ii ?_
        rw [ci]
        (repeat refine gp_gc [7, 57, 64, 97] od_Br_edges rfl rfl ?_)
        rw [eia]
        refine And.intro (vp_in_nI (by omega) (by decide)) ?_
        rw [cia]
        (repeat refine gp_gc [7, 57, 64, 97] od_Br_edges rfl rfl ?_)
        by_cases c2 : w 77 i = w 77 (i + a)
        · refine gb_eq_t c2 ?_
          (repeat refine gp_gc [7, 57, 64, 97] od_Br_edges rfl rfl ?_)
          exact k97 _ (by rw [if_neg (fun z => z.2 c2), Int32.add_zero])
        · refine gb_eq_f c2 ?_
          (repeat refine gp_gc [7, 57, 64, 97] od_Br_edges rfl rfl ?_)
          exact k97 _ (by rw [if_pos ⟨c1, c2⟩]; rfl)
      have k57 : ∀ s', s' = s + (if i % a + 1 < a ∧ i + 1 < N ∧ ¬ w 77 i = w 77 (i + 1) then 1 else 0) → gp_Go l G (d + 0) m_Br_edges K 57 [some (.ref 76), some (.int (nI a)), some (.int s'), some (.int (nI (i % a + 1))), some (.int (nI i))] [] (gv w u q) 0 0 := by
        intro s' es
        refine gp_go od_Br_edges rfl ?_
        (repeat refine gp_gc [7, 57, 64, 97] od_Br_edges rfl rfl ?_)
        by_cases c1 : i % a + 1 < a
        · have em : (i + 1) % a = i % a + 1 := by
            rw [Nat.add_mod, Nat.mod_eq_of_lt (show 1 < a by omega), Nat.mod_eq_of_lt c1]
          refine gb_lt_t (nI_lt c1 (by omega)) ?_
          (repeat refine gp_gc [7, 57, 64, 97] od_Br_edges rfl rfl ?_)
          have k := k64 s' es
          rw [em] at k
          exact k
        · have em : (i + 1) % a = 0 := by
            have e : i % a + 1 = a := by omega
            have d := Nat.div_add_mod i a
            have : i + 1 = a * (i / a + 1) := by rw [Nat.mul_succ]; omega
            rw [this, Nat.mul_mod_right]
          refine gb_lt_f (nI_nlt (by omega) (by omega)) ?_
          (repeat refine gp_gc [7, 57, 64, 97] od_Br_edges rfl rfl ?_)
          have k := k64 s' es
          rw [em] at k
          exact k
      refine gp_go od_Br_edges rfl ?_
      (repeat refine gp_gc [7, 57, 64, 97] od_Br_edges rfl rfl ?_)
      refine gb_ge_f (by rw [eN]; exact nI_ge (by omega) (by omega)) ?_
      (repeat refine gp_gc [7, 57, 64, 97] od_Br_edges rfl rfl ?_)
      rw [incx]
      by_cases c1 : i % a + 1 < a
      rotate_left
      · refine gb_ge_t (nI_le (by omega) (by omega)) ?_
        (repeat refine gp_gc [7, 57, 64, 97] od_Br_edges rfl rfl ?_)
        exact k57 _ (by rw [if_neg (fun z => c1 z.1), Int32.add_zero])
      refine gb_ge_f (nI_ge c1 (by omega)) ?_
      (repeat refine gp_gc [7, 57, 64, 97] od_Br_edges rfl rfl ?_)
      rw [inci]
      by_cases c2 : i + 1 < N
      rotate_left
      · refine gb_ge_t (by rw [eN]; exact nI_le (by omega) (by omega)) ?_
        (repeat refine gp_gc [7, 57, 64, 97] od_Br_edges rfl rfl ?_)
        exact k57 _ (by rw [if_neg (fun z => c2 z.2.1), Int32.add_zero])
      refine gb_ge_f (by rw [eN]; exact nI_ge c2 (by omega)) ?_
      (repeat refine gp_gc [7, 57, 64, 97] od_Br_edges rfl rfl ?_)
      refine And.intro ii ?_
      rw [ci]
      (repeat refine gp_gc [7, 57, 64, 97] od_Br_edges rfl rfl ?_)
      rw [inci]
      refine And.intro (vp_in_nI (by omega) (by decide)) ?_
      rw [ci1]
      (repeat refine gp_gc [7, 57, 64, 97] od_Br_edges rfl rfl ?_)
      by_cases c3 : w 77 i = w 77 (i + 1)
      · refine gb_eq_t c3 ?_
        (repeat refine gp_gc [7, 57, 64, 97] od_Br_edges rfl rfl ?_)
        exact k57 _ (by rw [if_neg (fun z => z.2.2 c3), Int32.add_zero])
      · refine gb_eq_f c3 ?_
        (repeat refine gp_gc [7, 57, 64, 97] od_Br_edges rfl rfl ?_)
        exact k57 _ (by rw [if_pos ⟨c1, c2, c3⟩]; rfl)
  (repeat refine gp_gc [7, 57, 64, 97] od_Br_edges rfl rfl ?_)
  have l0 := loop N 0 0 (by omega) h
  rw [Nat.zero_mod] at l0
  exact l0
/-! the class's edges are the reference's -/
def gq_ch (f : Nat → Int32) (i j : Nat) : Nat := if ¬ f i = f j then 1 else 0
theorem gq_ch_s (f : Nat → Int32) (i j : Nat) : gq_ch f i j = gq_ch f j i := by
  unfold gq_ch
  by_cases h : f i = f j
  · rw [if_neg (fun z => z h), if_neg (fun z => z h.symm)]
  · rw [if_pos h, if_pos (fun z => h z.symm)]
theorem gq_if2 {p q : Prop} {ip : Decidable p} {iq : Decidable q} {ipq : Decidable (p ∧ q)} : (@ite Nat (p ∧ q) ipq 1 0) = @ite Nat p ip (@ite Nat q iq 1 0) 0 := by
  by_cases a : p
  · by_cases b : q
    · rw [if_pos ⟨a, b⟩, if_pos a, if_pos b]
    · rw [if_neg (fun z => b z.2), if_pos a, if_neg b]
  · rw [if_neg (fun z => a z.1), if_neg a]
theorem gq_pos0 {j : Nat} (hj : j < 2 ^ 31) : (0 < nI j) = (0 < j) := by
  have := nI_ltI (a := 0) (b := j) (by decide) hj
  exact propext this
theorem gq_edC {a b : Nat} (ha : 0 < a) (hab : a * b ≤ 400) : gp_it (gc_edS w a (a * b)) 0 (a * b) 0 = nI (gsm (fun y => gsm (fun x => if x + 1 < a then gq_ch (w 77) (a * y + x) (a * y + x + 1) else 0) a) b + gsm (fun y => gsm (fun x => if y + 1 < b then gq_ch (w 77) (a * y + x) (a * (y + 1) + x) else 0) a) b) := by
  have e1 : gp_it (gc_edS w a (a * b)) 0 (a * b) 0 = 0 + nI (gsm (fun i => (if i % a + 1 < a ∧ i + 1 < a * b ∧ ¬ w 77 i = w 77 (i + 1) then 1 else 0) + (if i + a < a * b ∧ ¬ w 77 i = w 77 (i + a) then 1 else 0)) (a * b)) := by
    refine gsm_it (fun i s hi => ?_)
    unfold gc_edS
    rw [gq_ifN, gq_ifN, Int32.add_assoc, nI_add]
  rw [e1, Int32.zero_add, gsm_mul]
  congr 1
  rw [← gsm_add]
  refine gsm_congr (fun y hy => ?_)
  rw [← gsm_add]
  refine gsm_congr (fun x hx => ?_)
  have hya : a * y + a ≤ a * b := by rw [← Nat.mul_succ]; exact Nat.mul_le_mul_left a (by omega)
  have em : (a * y + x) % a = x := by rw [Nat.mul_add_mod]; exact Nat.mod_eq_of_lt hx
  have q1 : ((a * y + x) % a + 1 < a ∧ a * y + x + 1 < a * b ∧ ¬ w 77 (a * y + x) = w 77 (a * y + x + 1)) ↔ (x + 1 < a ∧ ¬ w 77 (a * y + x) = w 77 (a * y + x + 1)) := by
    rw [em]
    exact ⟨fun z => ⟨z.1, z.2.2⟩, fun z => ⟨z.1, by omega, z.2⟩⟩
  have q2 : (a * y + x + a < a * b ∧ ¬ w 77 (a * y + x) = w 77 (a * y + x + a)) ↔ (y + 1 < b ∧ ¬ w 77 (a * y + x) = w 77 (a * (y + 1) + x)) := by
    have e : a * (y + 1) + x = a * y + x + a := by rw [Nat.mul_succ]; omega
    rw [e]
    constructor
    · intro z
      refine ⟨?_, z.2⟩
      rcases Nat.lt_or_ge (y + 1) b with c | c
      · exact c
      · have : b = y + 1 := by omega
        rw [this, Nat.mul_succ] at z
        omega
    · intro z
      refine ⟨?_, z.2⟩
      have h2 : a * (y + 1) + a ≤ a * b := by rw [← Nat.mul_succ]; exact Nat.mul_le_mul_left a (by omega)
      rw [Nat.mul_succ] at h2
      omega
  simp only [q1, q2]
  rw [gq_if2, gq_if2]
  rfl
theorem gq_edR {k hd : Int32} (Jb : gJ_bi w N Ng) (eab : a * b = N) (ha : 0 < a) (hh : w 109 k.toNatClampNeg = hd) (h01 : hd = 0 ∨ hd = 1) : gf_edges w k (nI a) a b = nI (gsm (fun y => gsm (fun x => if 0 < x then gq_ch (w 77) (gq_ix hd a y x) (gq_ix hd a y (x - 1)) else 0) a) b + gsm (fun y => gsm (fun x => if 0 < y then gq_ch (w 77) (gq_ix hd a y x) (gq_ix hd a (y - 1) x) else 0) a) b) := by
  have hN := Jb.2.2.1
  have row : ∀ y, y < b → ∀ s, gf_edR w k (nI a) a y s = s + nI (gsm (fun x => (if 0 < x then gq_ch (w 77) (gq_ix hd a y x) (gq_ix hd a y (x - 1)) else 0) + (if 0 < y then gq_ch (w 77) (gq_ix hd a y x) (gq_ix hd a (y - 1) x) else 0)) a) := by
    intro y hy s
    unfold gf_edR
    refine gsm_it (fun x s hx => ?_)
    have hya : a * y + a ≤ a * b := by rw [← Nat.mul_succ]; exact Nat.mul_le_mul_left a (by omega)
    have hya1 : y ≤ a * y := Nat.le_mul_of_pos_left y ha
    unfold gf_edS
    have l0 := gq_laid (k := k) Jb eab hh h01 hy hx
    have p1 : (if 0 < nI x ∧ ¬ gf_laid w k (nI a) (nI y) (nI x) = gf_laid w k (nI a) (nI y) (nI x - 1) then (1 : Int32) else 0) = nI (if 0 < x then gq_ch (w 77) (gq_ix hd a y x) (gq_ix hd a y (x - 1)) else 0) := by
      by_cases c : 0 < x
      · have e : nI x - 1 = nI (x - 1) := pk_sub (b := 1) c
        have l1 := gq_laid (k := k) Jb eab hh h01 hy (show x - 1 < a by omega)
        rw [if_pos c]
        unfold gq_ch
        by_cases z : w 77 (gq_ix hd a y x) = w 77 (gq_ix hd a y (x - 1))
        · rw [if_neg (fun t => t.2 (by rw [e, l0, l1]; exact z)), if_neg (fun t => t z)]; rfl
        · rw [if_pos ⟨nI_lt (a := 0) c (by omega), fun t => z (by rw [e, l0, l1] at t; exact t)⟩, if_pos z]; rfl
      · rw [if_neg c, if_neg (fun t => c ((nI_ltI (a := 0) (by decide) (by omega)).mp t.1))]; rfl
    have p2 : (if 0 < nI y ∧ ¬ gf_laid w k (nI a) (nI y) (nI x) = gf_laid w k (nI a) (nI y - 1) (nI x) then (1 : Int32) else 0) = nI (if 0 < y then gq_ch (w 77) (gq_ix hd a y x) (gq_ix hd a (y - 1) x) else 0) := by
      by_cases c : 0 < y
      · have e : nI y - 1 = nI (y - 1) := pk_sub (b := 1) c
        have l1 := gq_laid (k := k) Jb eab hh h01 (show y - 1 < b by omega) hx
        rw [if_pos c]
        unfold gq_ch
        by_cases z : w 77 (gq_ix hd a y x) = w 77 (gq_ix hd a (y - 1) x)
        · rw [if_neg (fun t => t.2 (by rw [e, l0, l1]; exact z)), if_neg (fun t => t z)]; rfl
        · rw [if_pos ⟨nI_lt (a := 0) c (by omega), fun t => z (by rw [e, l0, l1] at t; exact t)⟩, if_pos z]; rfl
      · rw [if_neg c, if_neg (fun t => c ((nI_ltI (a := 0) (by decide) (by omega)).mp t.1))]; rfl
    rw [p1, p2, Int32.add_assoc, nI_add]
  unfold gf_edges
  have e := gsm_it (f := gf_edR w k (nI a) a) (F := fun y => gsm (fun x => (if 0 < x then gq_ch (w 77) (gq_ix hd a y x) (gq_ix hd a y (x - 1)) else 0) + (if 0 < y then gq_ch (w 77) (gq_ix hd a y x) (gq_ix hd a (y - 1) x) else 0)) a) (k := b) (s := 0) (fun y s hy => row y hy s)
  rw [e, Int32.zero_add]
  congr 1
  rw [← gsm_add]
  exact gsm_congr (fun y hy => gsm_add)
theorem gq_edges {k hd : Int32} (Jb : gJ_bi w N Ng) (eab : a * b = N) (ha : 0 < a) (hh : w 109 k.toNatClampNeg = hd) (h01 : hd = 0 ∨ hd = 1) : gp_it (gc_edS w a (a * b)) 0 (a * b) 0 = gf_edges w k (nI a) a b := by
  rw [gq_edC ha (by have := Jb.2.2.1; omega), gq_edR Jb eab ha hh h01]
  congr 2
  · refine gsm_congr (fun y hy => ?_)
    rcases h01 with z | z
    · rw [gsm_shift (fun x => gq_ch (w 77) (a * y + x) (a * y + x + 1))]
      refine gsm_congr (fun x hx => ?_)
      by_cases c : 0 < x
      · rw [if_pos c, if_pos c, gq_ch_s]
        unfold gq_ix
        rw [if_neg (by rw [z]; decide), if_neg (by rw [z]; decide)]
        congr 1
        omega
      · rw [if_neg c, if_neg c]
    · rw [← gsm_rev (fun x => if x + 1 < a then gq_ch (w 77) (a * y + x) (a * y + x + 1) else 0)]
      refine gsm_congr (fun x hx => ?_)
      by_cases c : 0 < x
      · rw [if_pos c, if_pos (by omega)]
        unfold gq_ix
        rw [if_pos z, if_pos z]
        congr 1
        omega
      · rw [if_neg c, if_neg (by omega)]
  · have e1 : gsm (fun y => gsm (fun x => if y + 1 < b then gq_ch (w 77) (a * y + x) (a * (y + 1) + x) else 0) a) b = gsm (fun y => if y + 1 < b then gsm (fun x => gq_ch (w 77) (a * y + x) (a * (y + 1) + x)) a else 0) b := by
      refine gsm_congr (fun y hy => ?_)
      by_cases c : y + 1 < b
      · rw [if_pos c]
        exact gsm_congr (fun x hx => by rw [if_pos c])
      · rw [if_neg c]
        exact (gsm_congr (g := fun _ => 0) (fun x hx => by rw [if_neg c])).trans gsm_0
    rw [e1, gsm_shift (fun y => gsm (fun x => gq_ch (w 77) (a * y + x) (a * (y + 1) + x)) a)]
    refine gsm_congr (fun y hy => ?_)
    by_cases c : 0 < y
    · rw [if_pos c]
      have ey : y - 1 + 1 = y := by omega
      rw [ey]
      rcases h01 with z | z
      · refine gsm_congr (fun x hx => ?_)
        rw [if_pos c, gq_ch_s]
        unfold gq_ix
        rw [if_neg (by rw [z]; decide)]
      · rw [← gsm_rev (fun x => gq_ch (w 77) (a * (y - 1) + x) (a * y + x))]
        refine gsm_congr (fun x hx => ?_)
        rw [if_pos c, gq_ch_s]
        unfold gq_ix
        rw [if_pos z]
    · rw [if_neg c]
      exact ((gsm_congr (g := fun _ => 0) (fun x hx => by rw [if_neg c])).trans gsm_0).symm
end

end
