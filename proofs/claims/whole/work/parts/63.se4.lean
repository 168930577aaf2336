section
variable {l : Launch} {G : gp_G} {d : Nat} {w : Nat → Nat → Int32} {u : Int64 × (Nat → Int64)} {q : Nat → Nat} {K : Option Value → gp_H → Prop}
/-! ===== the class's search: all readings as the class walks them ===== -/
def gc_tf (w : Nat → Nat → Int32) (m t : Nat) : Int32 := if t = 1 then w (5 + m) 1 else if t = 2 then w (5 + m) 7 else w (5 + m) 8
def gc_th1 (w : Nat → Nat → Int32) (m t : Nat) : Int32 := if t = 0 then 0 else 1 <<< (gc_tf w m t &&& 31)
def gz_T (w : Nat → Nat → Int32) (ms tk : Nat → Nat) : Nat → Int32
  | 0 => 0
  | i + 1 => gz_T w ms tk i ||| gc_th1 w (ms i) (tk i)
theorem gz_T_congr {w : Nat → Nat → Int32} {ms tk tk' : Nat → Nat} : ∀ {i : Nat}, (∀ j, j < i → tk j = tk' j) → gz_T w ms tk i = gz_T w ms tk' i
  | 0, _ => rfl
  | i + 1, h => by
    show gz_T w ms tk i ||| gc_th1 w (ms i) (tk i) = gz_T w ms tk' i ||| gc_th1 w (ms i) (tk' i)
    rw [gz_T_congr (fun j hj => h j (by omega)), h i (by omega)]
theorem gcR_congr {ms tk tk' : Nat → Nat} : ∀ {i : Nat}, (∀ j, j < i → tk j = tk' j) → gz_R ms tk i = gz_R ms tk' i
  | 0, _ => rfl
  | i + 1, h => by
    show gz_R ms tk i ||| (if tk i = 1 then 1 <<< (nI (ms i) &&& 31) else 0) = gz_R ms tk' i ||| (if tk' i = 1 then 1 <<< (nI (ms i) &&& 31) else 0)
    rw [gcR_congr (fun j hj => h j (by omega)), h i (by omega)]
theorem gz_u_lt {tk : Nat → Nat} {i t j : Nat} (h : j < i) : gz_u tk i t j = tk j := if_neg (by omega)
theorem gz_u_at {tk : Nat → Nat} {i t : Nat} : gz_u tk i t i = t := if_pos rfl
theorem gz_T_u {w : Nat → Nat → Int32} {ms tk : Nat → Nat} {i t : Nat} : gz_T w ms (gz_u tk i t) (i + 1) = gz_T w ms tk i ||| gc_th1 w (ms i) t := by
  show gz_T w ms (gz_u tk i t) i ||| gc_th1 w (ms i) (gz_u tk i t i) = _
  rw [gz_T_congr (fun j hj => gz_u_lt hj), gz_u_at]
theorem gz_R_u {ms tk : Nat → Nat} {i t : Nat} : gz_R ms (gz_u tk i t) (i + 1) = gz_R ms tk i ||| (if t = 1 then 1 <<< (nI (ms i) &&& 31) else 0) := by
  show gz_R ms (gz_u tk i t) i ||| (if gz_u tk i t i = 1 then 1 <<< (nI (ms i) &&& 31) else 0) = _
  rw [gcR_congr (fun j hj => gz_u_lt hj), gz_u_at]
def gcz_ok (w : Nat → Nat → Int32) (m : Nat) (ms : Nat → Nat) (i t : Nat) (tk : Nat → Nat) : Bool := (decide (t = 0) || gc_A w m ms i t) && (decide (¬ t = 1) || decide (w (5 + ms i) 5 &&& (gz_R ms tk i ^^^ -1) = 0))
def gcz_b (w : Nat → Nat → Int32) (ms : Nat → Nat) (i t : Nat) (tk : Nat → Nat) : Nat := if gz_T w ms tk i &&& gc_th1 w (ms i) t = 0 then 0 else 1
def gcz_co (w : Nat → Nat → Int32) (ms : Nat → Nat) (PL : List (gf_L × gf_L)) (i t : Nat) (tk : Nat → Nat) : Nat := gc_P w ms PL (6 * i + 2 * min t 2 + gcz_b w ms i t tk)
theorem gcz_b_lt (w : Nat → Nat → Int32) (ms : Nat → Nat) (i t : Nat) (tk : Nat → Nat) : gcz_b w ms i t tk < 2 := by
  unfold gcz_b
  split <;> decide
theorem gc_tv_t : ∀ t, t < 4 → ∀ a b c : Bool, ((gc_tv a b c >>> (nI t &&& 31)) &&& 1 = 1) ↔ (t = 0 ∨ (t = 1 ∧ a = true) ∨ (t = 2 ∧ b = true) ∨ (t = 3 ∧ c = true)) := by decide
theorem gc_tv_A {A : Nat → Bool} {t : Nat} (ht : t < 4) : ((gc_tv (A 1) (A 2) (A 3) >>> (nI t &&& 31)) &&& 1 = 1) ↔ (decide (t = 0) || A t) = true := by
  rw [gc_tv_t t ht, Bool.or_eq_true, decide_eq_true_iff]
  rcases (show t = 0 ∨ t = 1 ∨ t = 2 ∨ t = 3 by omega) with rfl | rfl | rfl | rfl
  · simp
  · simp
  · simp
  · simp
def gcz_fl (w : Nat → Nat → Int32) (m : Nat) (ms : Nat → Nat) (PL : List (gf_L × gf_L)) (n i : Nat) : Nat := gc_fl (gc_P w ms PL) (gc_A w m ms) n (n - i)
theorem gcz_fl_b (w : Nat → Nat → Int32) (m : Nat) (ms : Nat → Nat) (PL : List (gf_L × gf_L)) (n i : Nat) : gcz_fl w m ms PL n i ≤ 999 * (n - i) := gc_fl_b (fun x _ => (gc_P_e w ms PL x).2) _ (by omega)
theorem gcz_hf {w : Nat → Nat → Int32} {m : Nat} {ms : Nat → Nat} {PL : List (gf_L × gf_L)} {n : Nat} (i t : Nat) (tk : Nat → Nat) (hi : i < n) (ht : t < 4) (ok : gcz_ok w m ms i t tk = true) : gcz_fl w m ms PL n i ≤ gcz_fl w m ms PL n (i + 1) + gcz_co w ms PL i t tk := by
  unfold gcz_fl
  have e : n - i = n - (i + 1) + 1 := by omega
  have e2 : n - 1 - (n - (i + 1)) = i := by omega
  rw [e]
  show gc_fl (gc_P w ms PL) (gc_A w m ms) n (n - (i + 1)) + gc_l2 (gc_P w ms PL) (gc_A w m ms (n - 1 - (n - (i + 1))) 1) (gc_A w m ms (n - 1 - (n - (i + 1))) 2) (gc_A w m ms (n - 1 - (n - (i + 1))) 3) (n - 1 - (n - (i + 1))) ≤ _
  rw [e2]
  have L := gc_l2_le (gc_P w ms PL) (gc_A w m ms i 1) (gc_A w m ms i 2) (gc_A w m ms i 3) i
  have hb := gcz_b_lt w ms i t tk
  unfold gcz_ok at ok
  rw [Bool.and_eq_true, Bool.or_eq_true] at ok
  have ok := ok.1
  refine Nat.add_le_add_left ?_ _
  unfold gcz_co
  rcases (show t = 0 ∨ t = 1 ∨ t = 2 ∨ t = 3 by omega) with rfl | rfl | rfl | rfl
  · have : gcz_b w ms i 0 tk = 0 := by
      unfold gcz_b gc_th1
      rw [if_pos rfl, if_pos (Int32.and_zero)]
    rw [this]
    exact L.1
  · have ok : gc_A w m ms i 1 = true := ok.resolve_left (by decide)
    have L := L.2.1 ok
    rcases (show gcz_b w ms i 1 tk = 0 ∨ gcz_b w ms i 1 tk = 1 by omega) with z | z
    · rw [z]; exact L.1
    · rw [z]; exact L.2
  · have ok : gc_A w m ms i 2 = true := ok.resolve_left (by decide)
    have L := L.2.2 (Or.inl ok)
    rcases (show gcz_b w ms i 2 tk = 0 ∨ gcz_b w ms i 2 tk = 1 by omega) with z | z
    · rw [z]; exact L.1
    · rw [z]; exact L.2
  · have ok : gc_A w m ms i 3 = true := ok.resolve_left (by decide)
    have L := L.2.2 (Or.inr ok)
    rcases (show gcz_b w ms i 3 tk = 0 ∨ gcz_b w ms i 3 tk = 1 by omega) with z | z
    · rw [z]; exact L.1
    · rw [z]; exact L.2
theorem gz_c_le {ok : Nat → Nat → (Nat → Nat) → Bool} {co : Nat → Nat → (Nat → Nat) → Nat} (hc : ∀ i t tk, co i t tk ≤ 999) : ∀ (f i : Nat) (tk : Nat → Nat) (s : Nat) (e : gz_S), e ∈ gz_c ok co f i tk s → e.1 ≤ s + 999 * f
  | 0, i, tk, s, e, h => by
    simp only [gz_c, List.mem_singleton] at h
    rw [h]
    exact Nat.le_refl s
  | f + 1, i, tk, s, e, h => by
    obtain ⟨t, _, ht, h⟩ := gz_l_mem h
    by_cases b : ok i t tk = true
    · rw [if_pos b] at h
      have h1 := gz_c_le hc f (i + 1) _ _ e h
      have h2 := hc i t tk
      omega
    · rw [if_neg b] at h
      exact absurd h (List.not_mem_nil)
/-- what a walk leaves as it was -/
def gY (S W : Nat → Nat → Int32) : Prop := (∀ b, b ≠ 65 → b ≠ 70 → b ≠ 71 → W b = S b) ∧ W 65 8 = S 65 8 ∧ W 65 11 = S 65 11
theorem gY_r (S : Nat → Nat → Int32) : gY S S := ⟨fun _ _ _ _ => rfl, rfl, rfl⟩
theorem gY_w {S W : Nat → Nat → Int32} {a k : Nat} {x : Int32} (h : gY S W) (ha : a = 70 ∨ a = 71) : gY S (gw W a k x) := by
  refine ⟨fun b h1 h2 h3 => ?_, ?_, ?_⟩
  · rw [gw_ne (by rcases ha with rfl | rfl <;> assumption)]; exact h.1 b h1 h2 h3
  · rw [gw_ne (by rcases ha with rfl | rfl <;> decide)]; exact h.2.1
  · rw [gw_ne (by rcases ha with rfl | rfl <;> decide)]; exact h.2.2
theorem gY_65 {S W : Nat → Nat → Int32} {k : Nat} {x : Int32} (h : gY S W) (h8 : k ≠ 8) (h11 : k ≠ 11) : gY S (gw W 65 k x) := by
  refine ⟨fun b h1 h2 h3 => ?_, ?_, ?_⟩
  · rw [gw_ne h1]; exact h.1 b h1 h2 h3
  · rw [gw_at, if_neg (fun z => h8 z.symm)]; exact h.2.1
  · rw [gw_at, if_neg (fun z => h11 z.symm)]; exact h.2.2

end
