section
variable {l : Launch} {G : gp_G} {d : Nat} {w : Nat → Nat → Int32} {u : Int64 × (Nat → Int64)} {q : Nat → Nat} {K : Option Value → gp_H → Prop}
/-! ===== the class's rows of bits: laid ===== -/
/-- bits and grid -/
def gJ_bi (w : Nat → Nat → Int32) (N Ng : Nat) : Prop := w 76 1 = nI N ∧ w 95 50 = nI N ∧ N ≤ 400 ∧ (∀ i, i < N → w 77 i = w 126 i) ∧ w 78 1 = nI Ng ∧ w 95 51 = nI Ng ∧ Ng ≤ 400 ∧ ∀ i, i < Ng → w 79 i = w 127 i
theorem gJ_bi_R {w W : Nat → Nat → Int32} {N Ng : Nat} (h : gs_R w W) (Jb : gJ_bi w N Ng) : gJ_bi W N Ng := by
  unfold gJ_bi
  rw [h.1 76 rfl (by decide) (by decide), h.1 77 rfl (by decide) (by decide), h.1 78 rfl (by decide) (by decide), h.1 79 rfl (by decide) (by decide), h.1 126 rfl (by decide) (by decide), h.1 127 rfl (by decide) (by decide), h.2.1 50 rfl, h.2.1 51 rfl]
  exact Jb
def gq_ix (h : Int32) (a y x : Nat) : Nat := a * y + (if h = 1 then a - 1 - x else x)
theorem gq_ix_lt {h : Int32} {a b y x : Nat} (hy : y < b) (hx : x < a) : gq_ix h a y x < a * b := by
  have : gq_ix h a y x < a * y + a := by
    unfold gq_ix
    split <;> omega
  have h2 : a * y + a ≤ a * b := by
    rw [← Nat.mul_succ]
    exact Nat.mul_le_mul_left a hy
  omega
section
variable {N Ng a b : Nat}
set_option maxRecDepth 100000 in
theorem sp_Br_foldsBy {x : Int32} (eN : w 76 1 = nI N) (hN : N ≤ 400) (h1 : ∀ a b, x = nI a → 1 < a → a < N → N = a * b → K (some (.int 1)) (gv w u q)) (h0 : ¬ (∃ a b, x = nI a ∧ 1 < a ∧ a < N ∧ N = a * b) → K (some (.int 0)) (gv w u q)) : gp_Cal l G d m_Br_foldsBy [.ref 76, .int x] (gv w u q) K := by
  refine gp_enter od_Br_foldsBy rfl ?_
  (repeat refine gp_gc [] od_Br_foldsBy rfl rfl ?_)
  by_cases c1 : x < 2
  · refine gb_lt_t c1 ?_
    (repeat refine gp_gc [] od_Br_foldsBy rfl rfl ?_)
    refine And.intro (Or.inl rfl) (h0 (fun ⟨a, b, e, h, h2, _⟩ => ?_))
    rw [e] at c1
    exact absurd c1 (nI_nlt (b := 2) h (by omega))
  refine gb_lt_f c1 ?_
  (repeat refine gp_gc [] od_Br_foldsBy rfl rfl ?_)
  refine And.intro (by decide) ?_
  (repeat refine gp_gc [] od_Br_foldsBy rfl rfl ?_)
  obtain ⟨a, ha, ea⟩ := nI_of (show ¬ x < 0 from fun z => c1 (Int32.lt_trans z (by decide)))
  have ha2 : 2 ≤ a := by
    rw [ea] at c1
    exact Nat.not_lt.mp (fun z => c1 (nI_lt (b := 2) z (by decide)))
  have e2 : w 76 1 / Int32.ofInt 2 = nI (N / 2) := by rw [eN]; exact pk_div (d := 2) (by omega) (by decide) (by decide)
  rw [e2, ea]
  by_cases c2 : N / 2 < a
  · refine gb_gt_t (nI_lt c2 ha) ?_
    (repeat refine gp_gc [] od_Br_foldsBy rfl rfl ?_)
    refine And.intro (Or.inl rfl) (h0 (fun ⟨a', b, e, h, h2, h3⟩ => ?_))
    rw [ea] at e
    have e := (nI_eq ha (by omega)).mp e
    subst e
    have hb : 2 ≤ b := by
      rcases Nat.lt_or_ge b 2 with z | z
      · have : a * b ≤ a * 1 := Nat.mul_le_mul_left a (by omega)
        omega
      · exact z
    have : a * 2 ≤ a * b := Nat.mul_le_mul_left a hb
    omega
  refine gb_gt_f (nI_nlt (by omega) (by omega)) ?_
  (repeat refine gp_gc [] od_Br_foldsBy rfl rfl ?_)
  refine And.intro (nI_ne0 (by omega) ha) ?_
  (repeat refine gp_gc [] od_Br_foldsBy rfl rfl ?_)
  rw [eN, pk_rem (by omega) (by omega) ha]
  by_cases c3 : N % a = 0
  · refine gb1_ne_f (by rw [c3]; rfl) ?_
    (repeat refine gp_gc [] od_Br_foldsBy rfl rfl ?_)
    exact And.intro (Or.inr rfl) (h1 a (N / a) ea (by omega) (by omega) (by have := Nat.div_add_mod N a; omega))
  · refine gb1_ne_t (nI_ne0 (by omega) (Nat.lt_of_le_of_lt (Nat.mod_le _ _) (by omega))) ?_
    (repeat refine gp_gc [] od_Br_foldsBy rfl rfl ?_)
    refine And.intro (Or.inl rfl) (h0 (fun ⟨a', b, e, h, h2, h3⟩ => ?_))
    rw [ea] at e
    have e := (nI_eq ha (by omega)).mp e
    subst e
    exact c3 (by rw [h3]; exact Nat.mul_mod_right _ _)
set_option maxRecDepth 100000 in
theorem sp_Br_heightFor {x : Int32} (eN : w 76 1 = nI (a * b)) (hab : a * b ≤ 400) (ha : 0 < a) (ha4 : a ≤ 400) (ex : x = nI a) (h : K (some (.int (nI b))) (gv w u q)) : gp_Cal l G (d + 0) m_Br_heightFor [.ref 76, .int x] (gv w u q) K := by
  refine gp_enter od_Br_heightFor rfl ?_
  subst ex
  (repeat refine gp_gc [] od_Br_heightFor rfl rfl ?_)
  refine gb1_le_f (nI_nle ha (by omega)) ?_
  (repeat refine gp_gc [] od_Br_heightFor rfl rfl ?_)
  refine And.intro (nI_ne0 ha (by omega)) ?_
  (repeat refine gp_gc [] od_Br_heightFor rfl rfl ?_)
  have e : w 76 1 / nI a = nI b := by
    rw [eN, pk_div (by omega) ha (by omega), Nat.mul_div_cancel_left b ha]
  rw [e]
  exact h
set_option maxRecDepth 100000 in
theorem sp_Br_placeOf {V : gp_H} {wd yy xx hd : Int32} {y x : Nat} (ew : wd = nI a) (ey : yy = nI y) (ex : xx = nI x) (hx : x < a) (h : K (some (.int (nI (gq_ix hd a y x)))) V) : gp_Cal l G d m_Br_placeOf [.int wd, .int yy, .int xx, .int hd] V K := by
  subst ew ey ex
  refine gp_enter od_Br_placeOf rfl ?_
  unfold gq_ix at h
  (repeat refine gp_gc [] od_Br_placeOf rfl rfl ?_)
  by_cases c : hd = 1
  · rw [if_pos c] at h
    refine gb_ne_f c ?_
    (repeat refine gp_gc [] od_Br_placeOf rfl rfl ?_)
    have e : nI a * nI y + (nI a - Int32.ofInt 1 - nI x) = nI (a * y + (a - 1 - x)) := by
      rw [show nI a - Int32.ofInt 1 = nI (a - 1) from pk_sub (b := 1) (by omega), pk_sub (by omega), pk_mul, nI_add]
    rw [e]
    exact h
  · rw [if_neg c] at h
    refine gb_ne_t c ?_
    (repeat refine gp_gc [] od_Br_placeOf rfl rfl ?_)
    have e : nI a * nI y + nI x = nI (a * y + x) := by rw [pk_mul, nI_add]
    rw [e]
    exact h
def gc_agS (w : Nat → Nat → Int32) (hd : Int32) (a y x : Nat) (s : Int32) : Int32 := s + (if w 77 (gq_ix hd a y x) = w 79 (a * y + x) then 1 else 0)
def gc_agR (w : Nat → Nat → Int32) (hd : Int32) (a y : Nat) (s : Int32) : Int32 := gp_it (gc_agS w hd a y) 0 a s
set_option maxRecDepth 100000 in
theorem sp_Br_agreements {wd hd : Int32} (eN : w 76 1 = nI (a * b)) (hab : a * b ≤ 400) (ha : 0 < a) (hb : 0 < b) (ew : wd = nI a) (h : K (some (.int (gp_it (gc_agR w hd a) 0 b 0))) (gv w u q)) : gp_Cal l G (d + 1) m_Br_agreements [.ref 76, .ref 78, .int wd, .int hd] (gv w u q) K := by
  refine gp_enter od_Br_agreements rfl ?_
  subst ew
  have ha4 : a ≤ a * b := Nat.le_mul_of_pos_right a hb
  have hb4 : b ≤ a * b := Nat.le_mul_of_pos_left b ha
  have outer : ∀ (r y : Nat) (s : Int32), y + r = b → K (some (.int (gp_it (gc_agR w hd a) y r s))) (gv w u q) → gp_Go l G (d + 1) m_Br_agreements K 6 [some (.ref 76), some (.ref 78), some (.int (nI a)), some (.int hd), some (.int s), some (.int (nI y)), none] [] (gv w u q) 0 0 := by
    intro r
    induction r with
    | zero =>
      intro y s hy hh
      have ey : y = b := by omega
      refine gp_go od_Br_agreements rfl ?_
      (repeat refine gp_gc [6, 19, 57] od_Br_agreements rfl rfl ?_)
      refine sp_Br_heightFor (d := d) eN hab ha (by omega) rfl ?_
      (repeat refine gp_gc [6, 19, 57] od_Br_agreements rfl rfl ?_)
      refine gb_ge_t (by rw [ey]; exact Int32.le_refl _) ?_
      (repeat refine gp_gc [6, 19, 57] od_Br_agreements rfl rfl ?_)
      exact hh
    | succ r ih =>
      intro y s hy hh
      have hh : K (some (.int (gp_it (gc_agR w hd a) (y + 1) r (gp_it (gc_agS w hd a y) 0 a s)))) (gv w u q) := hh
      have incy : nI y + Int32.ofInt 1 = nI (y + 1) := gp_inc rfl
      have hya : a * y + a ≤ a * b := by rw [← Nat.mul_succ]; exact Nat.mul_le_mul_left a (by omega)
      have inner : ∀ (r2 x : Nat) (s : Int32), x + r2 = a → K (some (.int (gp_it (gc_agR w hd a) (y + 1) r (gp_it (gc_agS w hd a y) x r2 s)))) (gv w u q) → gp_Go l G (d + 1) m_Br_agreements K 19 [some (.ref 76), some (.ref 78), some (.int (nI a)), some (.int hd), some (.int s), some (.int (nI y)), some (.int (nI x))] [] (gv w u q) 0 0 := by
        intro r2
        induction r2 with
        | zero =>
          intro x s hx hh
          refine gp_go od_Br_agreements rfl ?_
          (repeat refine gp_gc [6, 19, 57] od_Br_agreements rfl rfl ?_)
          refine gb_ge_t (nI_le (by omega) (by omega)) ?_
          (repeat refine gp_gc [6, 19, 57] od_Br_agreements rfl rfl ?_)
          rw [incy]
          refine gp_drop 6 ?_
          exact ih (y + 1) s (by omega) hh
        | succ r2 ih2 =>
          intro x s hx hh
          have hh : K (some (.int (gp_it (gc_agR w hd a) (y + 1) r (gp_it (gc_agS w hd a y) (x + 1) r2 (gc_agS w hd a y x s))))) (gv w u q) := hh
          have incx : nI x + Int32.ofInt 1 = nI (x + 1) := gp_inc rfl
          have l1 : gq_ix hd a y x < a * b := gq_ix_lt (by omega) (by omega)
          have c1 : (nI (gq_ix hd a y x)).toNatClampNeg = gq_ix hd a y x := nI_clamp (by omega)
          have e2 : nI a * nI y + nI x = nI (a * y + x) := by rw [pk_mul, nI_add]
          have c2 : (nI (a * y + x)).toNatClampNeg = a * y + x := nI_clamp (by omega)
          have nxt : ∀ s', s' = gc_agS w hd a y x s → gp_Go l G (d + 1) m_Br_agreements K 57 [some (.ref 76), some (.ref 78), some (.int (nI a)), some (.int hd), some (.int s'), some (.int (nI y)), some (.int (nI x))] [] (gv w u q) 0 0 := by
            intro s' es
            subst es
            refine gp_go od_Br_agreements rfl ?_
            (repeat refine gp_gc [6, 19, 57] od_Br_agreements rfl rfl ?_)
            rw [incx]
            exact ih2 (x + 1) _ (by omega) hh
          unfold gc_agS at nxt
          refine gp_go od_Br_agreements rfl ?_
          (repeat refine gp_gc [6, 19, 57] od_Br_agreements rfl rfl ?_)
          refine gb_ge_f (nI_ge (by omega) (by omega)) ?_
          (repeat refine gp_gc [6, 19, 57] od_Br_agreements rfl rfl ?_)
          refine sp_Br_placeOf (d := d) rfl rfl rfl (by omega) ?_
          (repeat refine gp_gc [6, 19, 57] od_Br_agreements rfl rfl ?_)
          refine And.intro (vp_in_nI (by omega) (by decide)) ?_
          rw [c1]
          (repeat refine gp_gc [6, 19, 57] od_Br_agreements rfl rfl ?_)
          rw [e2]
          refine And.intro (vp_in_nI (by omega) (by decide)) ?_
          rw [c2]
          (repeat refine gp_gc [6, 19, 57] od_Br_agreements rfl rfl ?_)
          by_cases c : w 77 (gq_ix hd a y x) = w 79 (a * y + x)
          · refine gb_ne_f c ?_
            (repeat refine gp_gc [6, 19, 57] od_Br_agreements rfl rfl ?_)
            exact nxt _ (by rw [if_pos c]; rfl)
          · refine gb_ne_t c ?_
            (repeat refine gp_gc [6, 19, 57] od_Br_agreements rfl rfl ?_)
            exact nxt _ (by rw [if_neg c, Int32.add_zero])
      refine gp_go od_Br_agreements rfl ?_
      (repeat refine gp_gc [6, 19, 57] od_Br_agreements rfl rfl ?_)
      refine sp_Br_heightFor (d := d) eN hab ha (by omega) rfl ?_
      (repeat refine gp_gc [6, 19, 57] od_Br_agreements rfl rfl ?_)
      refine gb_ge_f (nI_ge (by omega) (by omega)) ?_
      (repeat refine gp_gc [6, 19, 57] od_Br_agreements rfl rfl ?_)
      exact inner a 0 s (by omega) hh
  (repeat refine gp_gc [6, 19, 57] od_Br_agreements rfl rfl ?_)
  exact outer b 0 0 (by omega) h
set_option maxRecDepth 100000 in
theorem sp_Br_isHalf {wd hd : Int32} (eN : w 76 1 = nI (a * b)) (hab : a * b ≤ 400) (ha : 0 < a) (hb : 0 < b) (ew : wd = nI a) (h1 : (∀ y x, y < b → x < a → w 77 (gq_ix hd a y x) = w 79 (b * x + y)) → K (some (.int 1)) (gv w u q)) (h0 : ¬ (∀ y x, y < b → x < a → w 77 (gq_ix hd a y x) = w 79 (b * x + y)) → K (some (.int 0)) (gv w u q)) : gp_Cal l G (d + 1) m_Br_isHalf [.ref 76, .ref 78, .int wd, .int hd] (gv w u q) K := by
  refine gp_enter od_Br_isHalf rfl ?_
  subst ew
  have ha4 : a ≤ a * b := Nat.le_mul_of_pos_right a hb
  have hb4 : b ≤ a * b := Nat.le_mul_of_pos_left b ha
  have outer : ∀ (r y : Nat), y + r = b → (∀ y' x, y' < y → x < a → w 77 (gq_ix hd a y' x) = w 79 (b * x + y')) → gp_Go l G (d + 1) m_Br_isHalf K 10 [some (.ref 76), some (.ref 78), some (.int (nI a)), some (.int hd), some (.int (nI b)), some (.int (nI y)), none] [] (gv w u q) 0 0 := by
    intro r
    induction r with
    | zero =>
      intro y hy hall
      have ey : y = b := by omega
      refine gp_go od_Br_isHalf rfl ?_
      (repeat refine gp_gc [10, 20] od_Br_isHalf rfl rfl ?_)
      refine gb_ge_t (by rw [ey]; exact Int32.le_refl _) ?_
      (repeat refine gp_gc [10, 20] od_Br_isHalf rfl rfl ?_)
      exact And.intro (Or.inr rfl) (h1 (by rw [ey] at hall; exact hall))
    | succ r ih =>
      intro y hy hall
      have incy : nI y + Int32.ofInt 1 = nI (y + 1) := gp_inc rfl
      have inner : ∀ (r2 x : Nat), x + r2 = a → (∀ x', x' < x → w 77 (gq_ix hd a y x') = w 79 (b * x' + y)) → gp_Go l G (d + 1) m_Br_isHalf K 20 [some (.ref 76), some (.ref 78), some (.int (nI a)), some (.int hd), some (.int (nI b)), some (.int (nI y)), some (.int (nI x))] [] (gv w u q) 0 0 := by
        intro r2
        induction r2 with
        | zero =>
          intro x hx hx2
          refine gp_go od_Br_isHalf rfl ?_
          (repeat refine gp_gc [10, 20] od_Br_isHalf rfl rfl ?_)
          refine gb_ge_t (nI_le (by omega) (by omega)) ?_
          (repeat refine gp_gc [10, 20] od_Br_isHalf rfl rfl ?_)
          rw [incy]
          refine gp_drop 6 ?_
          refine ih (y + 1) (by omega) (fun y' x' hy' hx' => ?_)
          by_cases c : y' = y
          · rw [c]; exact hx2 x' (by omega)
          · exact hall y' x' (by omega) hx'
        | succ r2 ih2 =>
          intro x hx hx2
          have incx : nI x + Int32.ofInt 1 = nI (x + 1) := gp_inc rfl
          have l1 : gq_ix hd a y x < a * b := gq_ix_lt (by omega) (by omega)
          have c1 : (nI (gq_ix hd a y x)).toNatClampNeg = gq_ix hd a y x := nI_clamp (by omega)
          have e2 : nI b * nI x + nI y = nI (b * x + y) := by rw [pk_mul, nI_add]
          have l2 : b * x + y < a * b := gf_mn (by omega) (by omega)
          have c2 : (nI (b * x + y)).toNatClampNeg = b * x + y := nI_clamp (by omega)
          refine gp_go od_Br_isHalf rfl ?_
          (repeat refine gp_gc [10, 20] od_Br_isHalf rfl rfl ?_)
          refine gb_ge_f (nI_ge (by omega) (by omega)) ?_
          (repeat refine gp_gc [10, 20] od_Br_isHalf rfl rfl ?_)
          refine sp_Br_placeOf (d := d) rfl rfl rfl (by omega) ?_
          (repeat refine gp_gc [10, 20] od_Br_isHalf rfl rfl ?_)
          refine And.intro (vp_in_nI (by omega) (by decide)) ?_
          rw [c1]
          (repeat refine gp_gc [10, 20] od_Br_isHalf rfl rfl ?_)
          rw [e2]
          refine And.intro (vp_in_nI (by omega) (by decide)) ?_
          rw [c2]
          (repeat refine gp_gc [10, 20] od_Br_isHalf rfl rfl ?_)
          by_cases c : w 77 (gq_ix hd a y x) = w 79 (b * x + y)
          · refine gb_eq_t c ?_
            (repeat refine gp_gc [10, 20] od_Br_isHalf rfl rfl ?_)
            rw [incx]
            exact ih2 (x + 1) (by omega) (lt_s hx2 c)
          · refine gb_eq_f c ?_
            (repeat refine gp_gc [10, 20] od_Br_isHalf rfl rfl ?_)
            exact And.intro (Or.inl rfl) (h0 (fun z => c (z y x (by omega) (by omega))))
      refine gp_go od_Br_isHalf rfl ?_
      (repeat refine gp_gc [10, 20] od_Br_isHalf rfl rfl ?_)
      refine gb_ge_f (nI_ge (by omega) (by omega)) ?_
      (repeat refine gp_gc [10, 20] od_Br_isHalf rfl rfl ?_)
      exact inner a 0 (by omega) (fun x' hx' => absurd hx' (by omega))
  (repeat refine gp_gc [10, 20] od_Br_isHalf rfl rfl ?_)
  refine sp_Br_heightFor (d := d) eN hab ha (by omega) rfl ?_
  (repeat refine gp_gc [10, 20] od_Br_isHalf rfl rfl ?_)
  exact outer b 0 (by omega) (fun y' x hy' => absurd hy' (by omega))
end

end
