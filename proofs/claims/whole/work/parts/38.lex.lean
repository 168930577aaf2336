section
variable {l : Launch} {G : gp_G} {d : Nat} {w : Nat → Nat → Int32} {u : Int64 × (Nat → Int64)} {q : Nat → Nat} {K : Option Value → gp_H → Prop}
/-! ===== tokens of a tape ===== -/
def gx_run (C : Nat → Bool) (tp : Nat → Nat) : Nat → Nat → Nat
  | 0, p => p
  | r + 1, p => if C (tp p) then gx_run C tp r (p + 1) else p
theorem gx_run_b {C : Nat → Bool} {tp : Nat → Nat} : ∀ (r p : Nat), p ≤ gx_run C tp r p ∧ gx_run C tp r p ≤ p + r
  | 0, p => ⟨Nat.le_refl p, Nat.le_refl p⟩
  | r + 1, p => by
    unfold gx_run
    split
    · have := gx_run_b (C := C) (tp := tp) r (p + 1)
      omega
    · omega
def gx_bl (c : Nat) : Bool := c == 32 || c == 10
def gx_le (c : Nat) : Bool := decide (97 ≤ c ∧ c ≤ 122 ∨ 65 ≤ c ∧ c ≤ 90)
def gx_di (c : Nat) : Bool := decide (48 ≤ c ∧ c ≤ 57)
def gx_sg (c : Nat) : Bool := decide (c = 59 ∨ c = 43 ∨ c = 45 ∨ c = 42 ∨ c = 47 ∨ c = 40 ∨ c = 41 ∨ c = 60 ∨ c = 61 ∨ c = 62)
def gx_s (tp : Nat → Nat) (n p : Nat) : Nat := gx_run gx_bl tp (n - p) p
def gx_sub (tp : Nat → Nat) (s e : Nat) : List Nat := (List.range (e - s)).map (fun k => tp (s + k))
def gx_S (i : Nat) : List Nat := (List.range (gp_sl1 i)).map (fun k => (gp_sc i k).toNatClampNeg)
def gx_kwN (l : List Nat) : Nat := if l = gx_S 3 then 9 else if l = gx_S 4 then 10 else if l = gx_S 5 then 11 else if l = gx_S 6 then 12 else if l = gx_S 7 then 13 else if l = gx_S 8 then 14 else if l = gx_S 9 then 15 else if l = gx_S 10 then 16 else if l = gx_S 11 then 17 else if l = gx_S 12 then 18 else if l = gx_S 13 then 19 else if l = gx_S 14 then 20 else if l = gx_S 15 then 21 else 32
def gx_kw (l : List Nat) : Nat := if l = gx_S 16 then 0 else if l = gx_S 17 then 1 else if l = gx_S 18 then 2 else if l = gx_S 19 then 3 else if l = gx_S 20 then 4 else if l = gx_S 21 then 5 else if l = gx_S 22 then 6 else if l = gx_S 23 then 7 else if l = gx_S 24 then 8 else gx_kwN l
def gx_nm (tp : Nat → Nat) : Nat → Nat → Nat → Nat
  | 0, _, a => a
  | r + 1, p, a => gx_nm tp r (p + 1) (10 * a + (tp p - 48))
def gx_e (tp : Nat → Nat) (n p : Nat) : Nat := if n ≤ gx_s tp n p then n else if gx_le (tp (gx_s tp n p)) then gx_run gx_le tp (n - gx_s tp n p) (gx_s tp n p) else if gx_di (tp (gx_s tp n p)) then gx_run gx_di tp (n - gx_s tp n p) (gx_s tp n p) else gx_s tp n p + 1
def gx_k (tp : Nat → Nat) (n p : Nat) : Nat := if n ≤ gx_s tp n p then 31 else if gx_le (tp (gx_s tp n p)) then gx_kw (gx_sub tp (gx_s tp n p) (gx_e tp n p)) else if gx_di (tp (gx_s tp n p)) then (if gx_e tp n p - gx_s tp n p < 5 then 30 else 32) else if gx_sg (tp (gx_s tp n p)) then tp (gx_s tp n p) else 32
def gx_v (tp : Nat → Nat) (n p : Nat) : Nat := gx_nm tp (gx_e tp n p - gx_s tp n p) (gx_s tp n p) 0
def gx_rt (k : Nat) : Nat := if k < 5 then k + 7 else if k < 9 then k - 2 else if k < 22 then k + 12 else if k = 30 then 2 else if k = 31 then 0 else if k = 32 then 1 else 100 + k
theorem gx_map {a b : Nat} {f g : Nat → Nat} : (List.range a).map f = (List.range b).map g ↔ a = b ∧ ∀ k, k < a → f k = g k := by
  constructor
  · intro h
    have hl := congrArg List.length h
    simp only [List.length_map, List.length_range] at hl
    refine ⟨hl, fun k hk => ?_⟩
    have := congrArg (fun l => l[k]?) h
    simpa [hk, hl ▸ hk] using this
  · rintro ⟨rfl, h⟩
    exact List.map_congr_left (fun k hk => h k (List.mem_range.mp hk))
theorem gx_sub_S {tp : Nat → Nat} {s e i : Nat} : gx_sub tp s e = gx_S i ↔ e - s = gp_sl1 i ∧ ∀ k, k < e - s → tp (s + k) = (gp_sc i k).toNatClampNeg := gx_map
theorem gx_sc_n : ∀ i, i < 25 → ∀ j, j < gp_sl1 i → gp_sc i j = nI (gp_sc i j).toNatClampNeg ∧ (gp_sc i j).toNatClampNeg < 256 := by decide +kernel
/-! ===== the reference's methods: tokens ===== -/
def gx_T (w : Nat → Nat → Int32) (tp : Nat → Nat) (n : Nat) : Prop := w 95 33 = nI n ∧ n ≤ 500 ∧ ∀ i, i < n → w 118 i = nI (tp i) ∧ tp i < 256
section
variable {tp : Nat → Nat} {n : Nat}
set_option maxRecDepth 100000 in
theorem sp_Rf_see {x : Int32} {p : Nat} (T : gx_T w tp n) (ex : x = nI p) (hp : p ≤ n) (h1 : p < n → K (some (.int (nI (tp p)))) (gv w u q)) (h0 : ¬ p < n → K (some (.int (-1))) (gv w u q)) : gp_Cal l G (d + 0) m_Rf_see [.ref 95, .int x] (gv w u q) K := by
  refine gp_enter od_Rf_see rfl ?_
  obtain ⟨T1, T2, T3⟩ := T
  (repeat refine gp_gc [] od_Rf_see rfl rfl ?_)
  by_cases c : p < n
  · refine gb_ge_f (show ¬ w 95 33 ≤ x by rw [T1, ex]; exact nI_ge c (by omega)) ?_
    (repeat refine gp_gc [] od_Rf_see rfl rfl ?_)
    refine And.intro (by rw [ex]; exact vp_in_nI (by omega) (by decide)) ?_
    (repeat refine gp_gc [] od_Rf_see rfl rfl ?_)
    rw [show x.toNatClampNeg = p by rw [ex]; exact nI_clamp (by omega), (T3 p c).1]
    exact h1 c
  · refine gb_ge_t (show w 95 33 ≤ x by rw [T1, ex]; exact nI_le (by omega) (by omega)) ?_
    (repeat refine gp_gc [] od_Rf_see rfl rfl ?_)
    exact h0 c
set_option maxRecDepth 100000 in
theorem sp_Rf_isLetter {V : gp_H} {x : Int32} (h1 : (97 ≤ x ∧ x ≤ 122) ∨ (65 ≤ x ∧ x ≤ 90) → K (some (.int 1)) V) (h0 : ¬ ((97 ≤ x ∧ x ≤ 122) ∨ (65 ≤ x ∧ x ≤ 90)) → K (some (.int 0)) V) : gp_Cal l G (d + 1) m_Rf_isLetter [.int x] V K := by
  refine gp_enter od_Rf_isLetter rfl ?_
  (repeat refine gp_gc [] od_Rf_isLetter rfl rfl ?_)
  refine sp_Rf_isIn (fun a b => ?_) (fun c => ?_)
  · (repeat refine gp_gc [] od_Rf_isLetter rfl rfl ?_)
    refine gb1_ne_t (by decide) ?_
    (repeat refine gp_gc [] od_Rf_isLetter rfl rfl ?_)
    exact And.intro (Or.inr rfl) (h1 (Or.inl ⟨a, b⟩))
  · (repeat refine gp_gc [] od_Rf_isLetter rfl rfl ?_)
    refine gb1_ne_f rfl ?_
    (repeat refine gp_gc [] od_Rf_isLetter rfl rfl ?_)
    refine sp_Rf_isIn (fun a b => ?_) (fun c2 => ?_)
    · (repeat refine gp_gc [] od_Rf_isLetter rfl rfl ?_)
      refine gb1_eq_f (by decide) ?_
      (repeat refine gp_gc [] od_Rf_isLetter rfl rfl ?_)
      exact And.intro (Or.inr rfl) (h1 (Or.inr ⟨a, b⟩))
    · (repeat refine gp_gc [] od_Rf_isLetter rfl rfl ?_)
      refine gb1_eq_t rfl ?_
      (repeat refine gp_gc [] od_Rf_isLetter rfl rfl ?_)
      exact And.intro (Or.inl rfl) (h0 (fun z => z.elim c c2))
set_option maxRecDepth 100000 in
theorem sp_Rf_isDigit {V : gp_H} {x : Int32} (h1 : 48 ≤ x ∧ x ≤ 57 → K (some (.int 1)) V) (h0 : ¬ (48 ≤ x ∧ x ≤ 57) → K (some (.int 0)) V) : gp_Cal l G (d + 1) m_Rf_isDigit [.int x] V K := by
  refine gp_enter od_Rf_isDigit rfl ?_
  (repeat refine gp_gc [] od_Rf_isDigit rfl rfl ?_)
  refine sp_Rf_isIn (fun a b => ?_) (fun c => ?_)
  · (repeat refine gp_gc [] od_Rf_isDigit rfl rfl ?_)
    exact And.intro (Or.inr rfl) (h1 ⟨a, b⟩)
  · (repeat refine gp_gc [] od_Rf_isDigit rfl rfl ?_)
    exact And.intro (Or.inl rfl) (h0 c)
theorem gx_le_n {x : Nat} (hx : x < 256) : ((97 : Int32) ≤ nI x ∧ nI x ≤ 122) ∨ ((65 : Int32) ≤ nI x ∧ nI x ≤ 90) ↔ gx_le x = true := by
  unfold gx_le
  rw [decide_eq_true_iff]
  have e1 : (97 : Int32) ≤ nI x ↔ 97 ≤ x := nI_leI (a := 97) (by decide) (by omega)
  have e2 : nI x ≤ (122 : Int32) ↔ x ≤ 122 := nI_leI (b := 122) (by omega) (by decide)
  have e3 : (65 : Int32) ≤ nI x ↔ 65 ≤ x := nI_leI (a := 65) (by decide) (by omega)
  have e4 : nI x ≤ (90 : Int32) ↔ x ≤ 90 := nI_leI (b := 90) (by omega) (by decide)
  rw [e1, e2, e3, e4]
theorem gx_di_n {x : Nat} (hx : x < 256) : ((48 : Int32) ≤ nI x ∧ nI x ≤ 57) ↔ gx_di x = true := by
  unfold gx_di
  rw [decide_eq_true_iff]
  have e1 : (48 : Int32) ≤ nI x ↔ 48 ≤ x := nI_leI (a := 48) (by decide) (by omega)
  have e2 : nI x ≤ (57 : Int32) ↔ x ≤ 57 := nI_leI (b := 57) (by omega) (by decide)
  rw [e1, e2]
set_option maxRecDepth 100000 in
theorem sp_Rf_is {i s e : Nat} (hi : i < 25) (T : gx_T w tp n) (es : w 95 36 = nI s) (ee : w 95 34 = nI e) (hse : s ≤ e) (hen : e ≤ n) (h1 : gx_sub tp s e = gx_S i → K (some (.int 1)) (gv w u q)) (h0 : ¬ gx_sub tp s e = gx_S i → K (some (.int 0)) (gv w u q)) : gp_Cal l G (d + 4) m_Rf_is [.ref 95, .retAddr i] (gv w u q) K := by
  obtain ⟨T1, T2, T3⟩ := T
  have hsl := gp_sl1_s i hi
  have sc := gx_sc_n i hi
  have e0 : w 95 34 - w 95 36 = nI (e - s) := by rw [ee, es]; exact pk_sub hse
  rw [gx_sub_S] at h1 h0
  have Ln : ∀ {K' : Option Value → gp_H → Prop}, K' (some (.int (nI (gp_sl1 i)))) (gv w u q) → gp_Cal l G (d + 3) m_Js_length [.retAddr i] (gv w u q) K' := fun h => sp_Js_length (d := d + 2) hi h
  have Ch : ∀ {K' : Option Value → gp_H → Prop} {j : Nat}, j < gp_sl1 i → K' (some (.int (gp_sc i j))) (gv w u q) → gp_Cal l G (d + 3) m_Js_charAt [.retAddr i, .int (nI j)] (gv w u q) K' := fun hj h => sp_Js_charAt (d := d) hi hj h
  obtain ⟨L, eL⟩ : ∃ L, L = gp_sl1 i := ⟨_, rfl⟩
  obtain ⟨C, eC⟩ : ∃ C, C = gp_sc i := ⟨_, rfl⟩
  rw [← eL] at h1 h0 Ln Ch sc hsl
  rw [← eC] at h1 h0 Ch sc
  clear eL eC
  obtain ⟨a, ea⟩ : ∃ a : Value, a = .retAddr i := ⟨_, rfl⟩
  rcases gp_25 hi with rfl | rfl | rfl | rfl | rfl | rfl | rfl | rfl | rfl | rfl | rfl | rfl | rfl | rfl | rfl | rfl | rfl | rfl | rfl | rfl | rfl | rfl | rfl | rfl | rfl
  all_goals
    refine gp_enter od_Rf_is rfl ?_
    (repeat refine gp_gc [24] od_Rf_is rfl rfl ?_)
    refine Ln ?_
    (repeat refine gp_gc [24] od_Rf_is rfl rfl ?_)
    rw [e0]
    have lo0 : ¬ (e - s = L ∧ ∀ k, k < e - s → tp (s + k) = (C k).toNatClampNeg) → ∀ (r j : Nat), j + r = L + 1 → gp_Go l G (d + 4) m_Rf_is K 24 [some (.ref 95), some a, some (.int 0), some (.int (nI j))] [] (gv w u q) 0 0 := by
      subst ea
      intro hn r j hj
      have h0 := h0 hn
      refine gp_go od_Rf_is rfl ?_
      (repeat refine gp_gc [24] od_Rf_is rfl rfl ?_)
      refine Ln ?_
      (repeat refine gp_gc [24] od_Rf_is rfl rfl ?_)
      by_cases c : j < L
      · refine gb_ge_f (nI_ge c (by omega)) ?_
        (repeat refine gp_gc [24] od_Rf_is rfl rfl ?_)
        refine gb1_eq_t rfl ?_
        (repeat refine gp_gc [24] od_Rf_is rfl rfl ?_)
        exact And.intro (Or.inl rfl) h0
      · refine gb_ge_t (nI_le (by omega) (by omega)) ?_
        (repeat refine gp_gc [24] od_Rf_is rfl rfl ?_)
        exact And.intro (Or.inl rfl) h0
    have lo1 : e - s = L → ∀ (r j : Nat), j + r = L → (∀ k, k < j → tp (s + k) = (C k).toNatClampNeg) → gp_Go l G (d + 4) m_Rf_is K 24 [some (.ref 95), some a, some (.int 1), some (.int (nI j))] [] (gv w u q) 0 0 := by
      subst ea
      intro hL r
      induction r with
      | zero =>
        intro j hj hall
        refine gp_go od_Rf_is rfl ?_
        (repeat refine gp_gc [24] od_Rf_is rfl rfl ?_)
        refine Ln ?_
        (repeat refine gp_gc [24] od_Rf_is rfl rfl ?_)
        refine gb_ge_t (nI_le (by omega) (by omega)) ?_
        (repeat refine gp_gc [24] od_Rf_is rfl rfl ?_)
        exact And.intro (Or.inr rfl) (h1 ⟨hL, fun k hk => hall k (by omega)⟩)
      | succ r ih =>
        intro j hj hall
        have sj := sc j (by omega)
        have tj := T3 (s + j) (by omega)
        have ea : w 95 36 + nI j = nI (s + j) := by rw [es, nI_add]
        have ca : (w 95 36 + nI j).toNatClampNeg = s + j := by rw [ea]; exact nI_clamp (by omega)
        refine gp_go od_Rf_is rfl ?_
        (repeat refine gp_gc [24] od_Rf_is rfl rfl ?_)
        refine Ln ?_
        (repeat refine gp_gc [24] od_Rf_is rfl rfl ?_)
        refine gb_ge_f (nI_ge (by omega) (by omega)) ?_
        (repeat refine gp_gc [24] od_Rf_is rfl rfl ?_)
        refine gb1_eq_f (by decide) ?_
        (repeat refine gp_gc [24] od_Rf_is rfl rfl ?_)
        refine And.intro (by rw [ea]; exact vp_in_nI (by omega) (by decide)) ?_
        (repeat refine gp_gc [24] od_Rf_is rfl rfl ?_)
        rw [ca, tj.1]
        refine Ch (by omega) ?_
        (repeat refine gp_gc [24] od_Rf_is rfl rfl ?_)
        by_cases c : tp (s + j) = (C j).toNatClampNeg
        · refine gb_ne_f (show nI (tp (s + j)) = C j by rw [c]; exact sj.1.symm) ?_
          (repeat refine gp_gc [24] od_Rf_is rfl rfl ?_)
          rw [gp_inc (i := j) rfl]
          refine ih (j + 1) (by omega) (fun k hk => ?_)
          by_cases e1 : k = j
          · subst e1; exact c
          · exact hall k (by omega)
        · refine gb_ne_t (show ¬ nI (tp (s + j)) = C j by rw [sj.1]; exact fun z => c ((nI_eq (by omega) (by omega)).mp z)) ?_
          (repeat refine gp_gc [24] od_Rf_is rfl rfl ?_)
          rw [gp_inc (i := j) rfl]
          exact lo0 (fun z => c (z.2 j (by omega))) (L - j) (j + 1) (by omega)
    subst ea
    by_cases c : e - s = L
    · refine gb_ne_f (show nI (e - s) = nI L by rw [c]) ?_
      (repeat refine gp_gc [24] od_Rf_is rfl rfl ?_)
      exact lo1 c L 0 (by omega) (fun k hk => by omega)
    · refine gb_ne_t (fun z => c ((nI_eq (by omega) (by omega)).mp z)) ?_
      (repeat refine gp_gc [24] od_Rf_is rfl rfl ?_)
      exact lo0 (fun z => c z.1) (L + 1) 0 (by omega)
end

end
