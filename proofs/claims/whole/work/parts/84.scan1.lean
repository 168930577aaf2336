section
variable {l : Launch} {G : gp_G} {d : Nat} {w : Nat → Nat → Int32} {u : Int64 × (Nat → Int64)} {q : Nat → Nat} {K : Option Value → gp_H → Prop}
/-! ===== the class's parser: bytes, words, numbers ===== -/
def gcx_T (w : Nat → Nat → Int32) (tp : Nat → Nat) (n : Nat) : Prop := w 55 4 = nI n ∧ n ≤ 500 ∧ ∀ i, i < n → w 56 i = nI (tp i) ∧ tp i < 256
/-- a call at a String constant that isn't a number -/
theorem gs_invS {l : Launch} {G : gp_G} {d : Nat} {M : gp_M} {K : Option Value → gp_H → Prop} {k : gp_K} {idx pc : Nat} {ls : List (Option Value)} {st : List Value} {V : gp_H} {cs ss i qk : Nat} {as rest : List Value} {M' : gp_M} (hl : gp_lk (gp_ml (gp_o M)) idx = some (qk, M')) (hq : (Nat.beq qk 0 || Nat.beq qk 3) = true) (hpop : gp_pop (gp_np M') [] st = some (as, .retAddr i :: rest)) (ho : gp_o M' = 16) (hi : i < 25) (h : gp_cl1 l G d M M' (.retAddr i :: as) rest V cs ss fun r V' cs' ss' => k (pc + 3) ls (r.toList ++ rest) V' cs' ss') : gp_step l G d M K k (.invokevirtual idx) 3 pc ls st V cs ss := by
  have hb : Nat.blt i 25 = true := Nat.blt_eq.mpr hi
  simp only [gp_step, gp_ln, gp_row, hl, hpop, gp_bt, hq, gp_rc, ho, Nat.beq_refl, hb]
  exact h
section
variable {tp : Nat → Nat} {n : Nat}
set_option maxRecDepth 100000 in
theorem sp_Pa_isLetter {V : gp_H} {x : Int32} {c : Nat} (ex : x = nI c) (hc : c < 256) (h : K (some (.int (if gx_le c then 1 else 0))) V) : gp_Cal l G d m_Pa_isLetter [.int x] V K := by
  subst ex
  have e := gx_le_n hc
  have yes : gx_le c = true → K (some (.int 1)) V := fun z => by rw [z] at h; exact h
  have no : ¬ gx_le c = true → K (some (.int 0)) V := fun z => by rw [if_neg z] at h; exact h
  refine gp_enter od_Pa_isLetter rfl ?_
  (repeat refine gp_gc [] od_Pa_isLetter rfl rfl ?_)
  by_cases c1 : nI c < 97
  · refine gb_lt_t c1 ?_
    (repeat refine gp_gc [] od_Pa_isLetter rfl rfl ?_)
    by_cases c3 : nI c < 65
    · refine gb_lt_t c3 ?_
      (repeat refine gp_gc [] od_Pa_isLetter rfl rfl ?_)
      exact And.intro (Or.inl rfl) (no (fun z => by rcases e.mpr z with y | y; exact absurd c1 (Int32.not_lt.mpr y.1); exact absurd c3 (Int32.not_lt.mpr y.1)))
    refine gb_lt_f c3 ?_
    (repeat refine gp_gc [] od_Pa_isLetter rfl rfl ?_)
    by_cases c4 : 90 < nI c
    · refine gb_gt_t c4 ?_
      (repeat refine gp_gc [] od_Pa_isLetter rfl rfl ?_)
      exact And.intro (Or.inl rfl) (no (fun z => by rcases e.mpr z with y | y; exact absurd c1 (Int32.not_lt.mpr y.1); exact absurd c4 (Int32.not_lt.mpr y.2)))
    refine gb_gt_f c4 ?_
    (repeat refine gp_gc [] od_Pa_isLetter rfl rfl ?_)
    exact And.intro (Or.inr rfl) (yes (e.mp (Or.inr ⟨Int32.not_lt.mp c3, Int32.not_lt.mp c4⟩)))
  refine gb_lt_f c1 ?_
  (repeat refine gp_gc [] od_Pa_isLetter rfl rfl ?_)
  by_cases c2 : nI c ≤ 122
  · refine gb_le_t c2 ?_
    (repeat refine gp_gc [] od_Pa_isLetter rfl rfl ?_)
    exact And.intro (Or.inr rfl) (yes (e.mp (Or.inl ⟨Int32.not_lt.mp c1, c2⟩)))
  refine gb_le_f c2 ?_
  (repeat refine gp_gc [] od_Pa_isLetter rfl rfl ?_)
  by_cases c3 : nI c < 65
  · exact absurd (Int32.lt_trans c3 (show (65 : Int32) < 97 by decide)) c1
  refine gb_lt_f c3 ?_
  (repeat refine gp_gc [] od_Pa_isLetter rfl rfl ?_)
  have c4 : 90 < nI c := Int32.lt_trans (show (90 : Int32) < 122 by decide) (Int32.not_le.mp c2)
  refine gb_gt_t c4 ?_
  (repeat refine gp_gc [] od_Pa_isLetter rfl rfl ?_)
  exact And.intro (Or.inl rfl) (no (fun z => by rcases e.mpr z with y | y; exact absurd y.2 c2; exact absurd c4 (Int32.not_lt.mpr y.2)))
set_option maxRecDepth 100000 in
theorem sp_Pa_isDigit {V : gp_H} {x : Int32} {c : Nat} (ex : x = nI c) (hc : c < 256) (h : K (some (.int (if gx_di c then 1 else 0))) V) : gp_Cal l G d m_Pa_isDigit [.int x] V K := by
  subst ex
  have e := gx_di_n hc
  have yes : gx_di c = true → K (some (.int 1)) V := fun z => by rw [z] at h; exact h
  have no : ¬ gx_di c = true → K (some (.int 0)) V := fun z => by rw [if_neg z] at h; exact h
  refine gp_enter od_Pa_isDigit rfl ?_
  (repeat refine gp_gc [] od_Pa_isDigit rfl rfl ?_)
  by_cases c1 : nI c < 48
  · refine gb_lt_t c1 ?_
    (repeat refine gp_gc [] od_Pa_isDigit rfl rfl ?_)
    exact And.intro (Or.inl rfl) (no (fun z => absurd c1 (Int32.not_lt.mpr (e.mpr z).1)))
  refine gb_lt_f c1 ?_
  (repeat refine gp_gc [] od_Pa_isDigit rfl rfl ?_)
  by_cases c2 : 57 < nI c
  · refine gb_gt_t c2 ?_
    (repeat refine gp_gc [] od_Pa_isDigit rfl rfl ?_)
    exact And.intro (Or.inl rfl) (no (fun z => absurd c2 (Int32.not_lt.mpr (e.mpr z).2)))
  refine gb_gt_f c2 ?_
  (repeat refine gp_gc [] od_Pa_isDigit rfl rfl ?_)
  exact And.intro (Or.inr rfl) (yes (e.mp ⟨Int32.not_lt.mp c1, Int32.not_lt.mp c2⟩))
theorem gx_run_1 {C : Nat → Bool} {p : Nat} (hp : p < n) (hC : C (tp p) = true) : gx_run C tp (n - p) p = gx_run C tp (n - (p + 1)) (p + 1) := by
  rw [show n - p = (n - (p + 1)) + 1 by omega]
  exact if_pos hC
def gcx_e (tp : Nat → Nat) (n p : Nat) : Nat := if gx_le (tp p) then gx_run gx_le tp (n - p) p else if gx_di (tp p) then gx_run gx_di tp (n - p) p else p + 1
set_option maxRecDepth 100000 in
theorem sp_Pa_runEnd {x : Int32} {p : Nat} (T : gcx_T w tp n) (ex : x = nI p) (hp : p < n) (h : K (some (.int (nI (gcx_e tp n p)))) (gv w u q)) : gp_Cal l G (d + 1) m_Pa_runEnd [.ref 55, .int x] (gv w u q) K := by
  refine gp_enter od_Pa_runEnd rfl ?_
  subst ex
  have hn := T.2.1
  have cp : (nI p).toNatClampNeg = p := nI_clamp (by omega)
  have ip : vp_in (nI p) 500 := vp_in_nI (by omega) (by decide)
  have Tp := T.2.2 p hp
  have both : gx_le (tp p) = true → gx_di (tp p) = true → False := by
    unfold gx_le gx_di
    rw [decide_eq_true_iff, decide_eq_true_iff]
    omega
  have loopL : ∀ (r i : Nat), i + r = n → K (some (.int (nI (gx_run gx_le tp r i)))) (gv w u q) → gp_Go l G (d + 1) m_Pa_runEnd K 25 [some (.ref 55), some (.int (nI p)), some (.int 1), some (.int 0), some (.int (nI i))] [] (gv w u q) 0 0 := by
    intro r
    induction r with
    | zero =>
      intro i hi hh
      refine gp_go od_Pa_runEnd rfl ?_
      (repeat refine gp_gc [25] od_Pa_runEnd rfl rfl ?_)
      refine gb_ge_t (by rw [T.1]; exact nI_le (by omega) (by omega)) ?_
      (repeat refine gp_gc [25] od_Pa_runEnd rfl rfl ?_)
      exact hh
    | succ r ih =>
      intro i hi hh
      have inc : nI i + Int32.ofInt 1 = nI (i + 1) := gp_inc rfl
      have ci : (nI i).toNatClampNeg = i := nI_clamp (by omega)
      have Ti := T.2.2 i (by omega)
      refine gp_go od_Pa_runEnd rfl ?_
      (repeat refine gp_gc [25] od_Pa_runEnd rfl rfl ?_)
      refine gb_ge_f (by rw [T.1]; exact nI_ge (by omega) (by omega)) ?_
      (repeat refine gp_gc [25] od_Pa_runEnd rfl rfl ?_)
      refine gb1_eq_f (by decide) ?_
      (repeat refine gp_gc [25] od_Pa_runEnd rfl rfl ?_)
      refine And.intro (vp_in_nI (by omega) (by decide)) ?_
      rw [ci]
      (repeat refine gp_gc [25] od_Pa_runEnd rfl rfl ?_)
      refine sp_Pa_isLetter (d := d) Ti.1 Ti.2 ?_
      by_cases c : gx_le (tp i) = true
      · have e : gx_run gx_le tp (r + 1) i = gx_run gx_le tp r (i + 1) := if_pos c
        rw [e] at hh
        rw [c]
        (repeat refine gp_gc [25] od_Pa_runEnd rfl rfl ?_)
        refine gb1_ne_t (by decide) ?_
        (repeat refine gp_gc [25] od_Pa_runEnd rfl rfl ?_)
        rw [inc]
        exact ih (i + 1) (by omega) hh
      · have e : gx_run gx_le tp (r + 1) i = i := if_neg c
        rw [e] at hh
        rw [if_neg c]
        (repeat refine gp_gc [25] od_Pa_runEnd rfl rfl ?_)
        refine gb1_ne_f rfl ?_
        (repeat refine gp_gc [25] od_Pa_runEnd rfl rfl ?_)
        refine gb1_eq_t rfl ?_
        (repeat refine gp_gc [25] od_Pa_runEnd rfl rfl ?_)
        exact hh
  have loopD : ∀ (r i : Nat), i + r = n → K (some (.int (nI (gx_run gx_di tp r i)))) (gv w u q) → gp_Go l G (d + 1) m_Pa_runEnd K 25 [some (.ref 55), some (.int (nI p)), some (.int 0), some (.int 1), some (.int (nI i))] [] (gv w u q) 0 0 := by
    intro r
    induction r with
    | zero =>
      intro i hi hh
      refine gp_go od_Pa_runEnd rfl ?_
      (repeat refine gp_gc [25] od_Pa_runEnd rfl rfl ?_)
      refine gb_ge_t (by rw [T.1]; exact nI_le (by omega) (by omega)) ?_
      (repeat refine gp_gc [25] od_Pa_runEnd rfl rfl ?_)
      exact hh
    | succ r ih =>
      intro i hi hh
      have inc : nI i + Int32.ofInt 1 = nI (i + 1) := gp_inc rfl
      have ci : (nI i).toNatClampNeg = i := nI_clamp (by omega)
      have Ti := T.2.2 i (by omega)
      refine gp_go od_Pa_runEnd rfl ?_
      (repeat refine gp_gc [25] od_Pa_runEnd rfl rfl ?_)
      refine gb_ge_f (by rw [T.1]; exact nI_ge (by omega) (by omega)) ?_
      (repeat refine gp_gc [25] od_Pa_runEnd rfl rfl ?_)
      refine gb1_eq_t rfl ?_
      (repeat refine gp_gc [25] od_Pa_runEnd rfl rfl ?_)
      refine gb1_eq_f (by decide) ?_
      (repeat refine gp_gc [25] od_Pa_runEnd rfl rfl ?_)
      refine And.intro (vp_in_nI (by omega) (by decide)) ?_
      rw [ci]
      (repeat refine gp_gc [25] od_Pa_runEnd rfl rfl ?_)
      refine sp_Pa_isDigit (d := d) Ti.1 Ti.2 ?_
      by_cases c : gx_di (tp i) = true
      · have e : gx_run gx_di tp (r + 1) i = gx_run gx_di tp r (i + 1) := if_pos c
        rw [e] at hh
        rw [c]
        (repeat refine gp_gc [25] od_Pa_runEnd rfl rfl ?_)
        refine gb1_eq_f (by decide) ?_
        (repeat refine gp_gc [25] od_Pa_runEnd rfl rfl ?_)
        rw [inc]
        exact ih (i + 1) (by omega) hh
      · have e : gx_run gx_di tp (r + 1) i = i := if_neg c
        rw [e] at hh
        rw [if_neg c]
        (repeat refine gp_gc [25] od_Pa_runEnd rfl rfl ?_)
        refine gb1_eq_t rfl ?_
        (repeat refine gp_gc [25] od_Pa_runEnd rfl rfl ?_)
        exact hh
  have none' : gp_Go l G (d + 1) m_Pa_runEnd K 25 [some (.ref 55), some (.int (nI p)), some (.int 0), some (.int 0), some (.int (nI (p + 1)))] [] (gv w u q) 0 0 ∨ True := Or.inr trivial
  have incp : nI p + Int32.ofInt 1 = nI (p + 1) := gp_inc rfl
  unfold gcx_e at h
  (repeat refine gp_gc [25] od_Pa_runEnd rfl rfl ?_)
  refine And.intro ip ?_
  rw [cp]
  (repeat refine gp_gc [25] od_Pa_runEnd rfl rfl ?_)
  refine sp_Pa_isLetter (d := d) Tp.1 Tp.2 ?_
  by_cases c1 : gx_le (tp p) = true
  · have c2 : gx_di (tp p) = false := by
      cases z : gx_di (tp p) with
      | false => rfl
      | true => exact (both c1 z).elim
    rw [if_pos c1, gx_run_1 hp c1] at h
    rw [c1]
    (repeat refine gp_gc [25] od_Pa_runEnd rfl rfl ?_)
    refine And.intro ip ?_
    rw [cp]
    (repeat refine gp_gc [25] od_Pa_runEnd rfl rfl ?_)
    refine sp_Pa_isDigit (d := d) Tp.1 Tp.2 ?_
    rw [c2]
    (repeat refine gp_gc [25] od_Pa_runEnd rfl rfl ?_)
    rw [incp]
    exact loopL (n - (p + 1)) (p + 1) (by omega) h
  · rw [if_neg c1] at h
    have c1' : gx_le (tp p) = false := by simpa using c1
    rw [c1']
    (repeat refine gp_gc [25] od_Pa_runEnd rfl rfl ?_)
    refine And.intro ip ?_
    rw [cp]
    (repeat refine gp_gc [25] od_Pa_runEnd rfl rfl ?_)
    refine sp_Pa_isDigit (d := d) Tp.1 Tp.2 ?_
    by_cases c2 : gx_di (tp p) = true
    · rw [if_pos c2, gx_run_1 hp c2] at h
      rw [c2]
      (repeat refine gp_gc [25] od_Pa_runEnd rfl rfl ?_)
      rw [incp]
      exact loopD (n - (p + 1)) (p + 1) (by omega) h
    · rw [if_neg c2] at h
      have c2' : gx_di (tp p) = false := by simpa using c2
      rw [c2']
      (repeat refine gp_gc [25] od_Pa_runEnd rfl rfl ?_)
      rw [incp]
      refine gp_go od_Pa_runEnd rfl ?_
      (repeat refine gp_gc [25] od_Pa_runEnd rfl rfl ?_)
      by_cases c3 : p + 1 < n
      · refine gb_ge_f (by rw [T.1]; exact nI_ge c3 (by omega)) ?_
        (repeat refine gp_gc [25] od_Pa_runEnd rfl rfl ?_)
        refine gb1_eq_t rfl ?_
        (repeat refine gp_gc [25] od_Pa_runEnd rfl rfl ?_)
        refine gb1_eq_t rfl ?_
        (repeat refine gp_gc [25] od_Pa_runEnd rfl rfl ?_)
        exact h
      · refine gb_ge_t (by rw [T.1]; exact nI_le (by omega) (by omega)) ?_
        (repeat refine gp_gc [25] od_Pa_runEnd rfl rfl ?_)
        exact h
set_option maxRecDepth 100000 in
theorem sp_Pa_numberOf {x y : Int32} {s e : Nat} (T : gcx_T w tp n) (ex : x = nI s) (ey : y = nI e) (hse : s ≤ e) (hen : e ≤ n) (hd : ∀ i, s ≤ i → i < e → gx_di (tp i) = true) (h : ∀ v, (e - s ≤ 4 → v = nI (gx_nm tp (e - s) s 0)) → K (some (.int v)) (gv w u q)) : gp_Cal l G (d + 0) m_Pa_numberOf [.ref 55, .int x, .int y] (gv w u q) K := by
  refine gp_enter od_Pa_numberOf rfl ?_
  subst ex ey
  have hn := T.2.1
  have loop : ∀ (r i : Nat) (v : Int32), i + r = e → s ≤ i → (e - s ≤ 4 → ∃ a : Nat, v = nI a ∧ gx_nm tp (e - s) s 0 = gx_nm tp r i a) → gp_Go l G (d + 0) m_Pa_numberOf K 5 [some (.ref 55), some (.int (nI s)), some (.int (nI e)), some (.int v), some (.int (nI i))] [] (gv w u q) 0 0 := by
    intro r
    induction r with
    | zero =>
      intro i v hi hsi ha
      refine gp_go od_Pa_numberOf rfl ?_
      (repeat refine gp_gc [5] od_Pa_numberOf rfl rfl ?_)
      refine gb_ge_t (nI_le (by omega) (by omega)) ?_
      (repeat refine gp_gc [5] od_Pa_numberOf rfl rfl ?_)
      refine h v (fun z => ?_)
      obtain ⟨a, e1, e2⟩ := ha z
      rw [e1, e2]
      rfl
    | succ r ih =>
      intro i v hi hsi ha
      have inc : nI i + Int32.ofInt 1 = nI (i + 1) := gp_inc rfl
      have ci : (nI i).toNatClampNeg = i := nI_clamp (by omega)
      have Ti := T.2.2 i (by omega)
      have hdi := hd i hsi (by omega)
      unfold gx_di at hdi
      rw [decide_eq_true_iff] at hdi
      refine gp_go od_Pa_numberOf rfl ?_
      (repeat refine gp_gc [5] od_Pa_numberOf rfl rfl ?_)
      refine gb_ge_f (nI_ge (by omega) (by omega)) ?_
      (repeat refine gp_gc [5] od_Pa_numberOf rfl rfl ?_)
      refine And.intro (vp_in_nI (by omega) (by decide)) ?_
      rw [ci, Ti.1]
      (repeat refine gp_gc [5] od_Pa_numberOf rfl rfl ?_)
      rw [inc]
      refine ih (i + 1) _ (by omega) (by omega) (fun z => ?_)
      obtain ⟨a, e1, e2⟩ := ha z
      refine ⟨10 * a + (tp i - 48), ?_, ?_⟩
      · rw [e1]
        show nI a * nI 10 + nI (tp i) - nI 48 = _
        rw [pk_mul, nI_add, pk_sub (by omega)]
        congr 1
        omega
      · rw [e2]
        rfl
  (repeat refine gp_gc [5] od_Pa_numberOf rfl rfl ?_)
  exact loop (e - s) s 0 (by omega) (Nat.le_refl s) (fun _ => ⟨0, rfl, rfl⟩)
set_option maxRecDepth 100000 in
theorem sp_Pa_standsAt {i st s m : Nat} (hi : i < 25) (T : gcx_T w tp n) (hst : st + m ≤ gp_sl1 i) (hs : s + m ≤ n) (h1 : (∀ k, k < m → tp (s + k) = (gp_sc i (st + k)).toNatClampNeg) → K (some (.int 1)) (gv w u q)) (h0 : ¬ (∀ k, k < m → tp (s + k) = (gp_sc i (st + k)).toNatClampNeg) → K (some (.int 0)) (gv w u q)) : gp_Cal l G (d + 4) m_Pa_standsAt [.ref 55, .retAddr i, .int (nI st), .int (nI s), .int (nI m)] (gv w u q) K := by
  have hn := T.2.1
  have hsl := gp_sl1_s i hi
  refine gp_enter od_Pa_standsAt rfl ?_
  have loop : ∀ (r k : Nat), k + r = m → (∀ j, j < k → tp (s + j) = (gp_sc i (st + j)).toNatClampNeg) → gp_Go l G (d + 4) m_Pa_standsAt K 3 [some (.ref 55), some (.retAddr i), some (.int (nI st)), some (.int (nI s)), some (.int (nI m)), some (.int (nI k))] [] (gv w u q) 0 0 := by
    intro r
    induction r with
    | zero =>
      intro k hk hall
      have ek : k = m := by omega
      refine gp_go od_Pa_standsAt rfl ?_
      (repeat refine gp_gc [3] od_Pa_standsAt rfl rfl ?_)
      refine gb_ge_t (by rw [ek]; exact Int32.le_refl _) ?_
      (repeat refine gp_gc [3] od_Pa_standsAt rfl rfl ?_)
      exact And.intro (Or.inr rfl) (h1 (by rw [ek] at hall; exact hall))
    | succ r ih =>
      intro k hk hall
      have inc : nI k + Int32.ofInt 1 = nI (k + 1) := gp_inc rfl
      have e1 : nI st + nI k = nI (st + k) := nI_add _ _
      have e2 : nI s + nI k = nI (s + k) := nI_add _ _
      have c2 : (nI (s + k)).toNatClampNeg = s + k := nI_clamp (by omega)
      have Ti := T.2.2 (s + k) (by omega)
      have sc := gx_sc_n i hi (st + k) (by omega)
      refine gp_go od_Pa_standsAt rfl ?_
      (repeat refine gp_gc [3] od_Pa_standsAt rfl rfl ?_)
      refine gb_ge_f (nI_ge (by omega) (by omega)) ?_
      (repeat refine gp_gc [3] od_Pa_standsAt rfl rfl ?_)
      rw [e1]
      refine gs_invS rfl rfl rfl rfl hi ?_
      refine sp_Js_charAt (d := d) hi (show st + k < gp_sl1 i by omega) ?_
      (repeat refine gp_gc [3] od_Pa_standsAt rfl rfl ?_)
      rw [e2]
      refine And.intro (vp_in_nI (by omega) (by decide)) ?_
      rw [c2, Ti.1]
      (repeat refine gp_gc [3] od_Pa_standsAt rfl rfl ?_)
      by_cases c : gp_sc i (st + k) = nI (tp (s + k))
      · refine gb_eq_t c ?_
        (repeat refine gp_gc [3] od_Pa_standsAt rfl rfl ?_)
        rw [inc]
        refine ih (k + 1) (by omega) (lt_s hall ?_)
        rw [c, nI_clamp (by omega)]
      · refine gb_eq_f c ?_
        (repeat refine gp_gc [3] od_Pa_standsAt rfl rfl ?_)
        exact And.intro (Or.inl rfl) (h0 (fun z => c (by rw [sc.1, ← z k (by omega)])))
  (repeat refine gp_gc [3] od_Pa_standsAt rfl rfl ?_)
  exact loop m 0 (by omega) (fun j hj => absurd hj (by omega))
end

end
