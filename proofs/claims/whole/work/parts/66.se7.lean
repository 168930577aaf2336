section
variable {l : Launch} {G : gp_G} {d : Nat} {w : Nat → Nat → Int32} {u : Int64 × (Nat → Int64)} {q : Nat → Nat} {K : Option Value → gp_H → Prop}
/-! ===== the class's readings are the reference's ===== -/
theorem gz_c_congr {ok ok' : Nat → Nat → (Nat → Nat) → Bool} {co co' : Nat → Nat → (Nat → Nat) → Nat} (n : Nat) (h : ∀ i t tk, i < n → t < 4 → (∀ j, j < i → tk j < 4) → ok i t tk = ok' i t tk ∧ (ok' i t tk = true → co i t tk = co' i t tk)) : ∀ (f i : Nat) (tk : Nat → Nat) (s : Nat), i + f = n → (∀ j, j < i → tk j < 4) → gz_c ok co f i tk s = gz_c ok' co' f i tk s
  | 0, _, _, _, _, _ => rfl
  | f + 1, i, tk, s, hi, h4 => by
    have one : ∀ t, t < 4 → (if ok i t tk then gz_c ok co f (i + 1) (gz_u tk i t) (s + co i t tk) else []) = (if ok' i t tk then gz_c ok' co' f (i + 1) (gz_u tk i t) (s + co' i t tk) else []) := by
      intro t ht
      have a := h i t tk (by omega) ht h4
      rw [a.1]
      by_cases b : ok' i t tk = true
      · rw [if_pos b, if_pos b, a.2 b]
        refine gz_c_congr n h f (i + 1) _ _ (by omega) (fun j hj => ?_)
        by_cases c : j = i
        · rw [c, gz_u_at]; exact ht
        · rw [gz_u_lt (by omega)]; exact h4 j (by omega)
      · rw [if_neg b, if_neg b]
    show gz_l _ 4 0 = gz_l _ 4 0
    simp only [gz_l, one 0 (by decide), one 1 (by decide), one 2 (by decide), one 3 (by decide), Nat.zero_add, Nat.reduceAdd]
theorem gb_R1 {ms tk : Nat → Nat} : ∀ {i b : Nat}, gb (gz_R ms tk i) b = true → gb (gz_R ms (fun _ => 1) i) b = true
  | 0, _, h => h
  | i + 1, b, h => by
    rw [gz_R1, gb_or, Bool.or_eq_true]
    have h : gb (gz_R ms tk i ||| (if tk i = 1 then 1 <<< (nI (ms i) &&& 31) else 0)) b = true := h
    rw [gb_or, Bool.or_eq_true] at h
    rcases h with h | h
    · exact Or.inl (gb_R1 h)
    · by_cases c : tk i = 1
      · rw [if_pos c] at h; exact Or.inr h
      · rw [if_neg c, gb_0] at h; exact absurd h (by decide)
section
variable {n nm m kn : Nat} {ms : Nat → Nat} {PL : List (gf_L × gf_L)}
theorem gJ_see (J : gJ_m w nm) (h4 : w (gp_ma m) 4 = w 107 kn) {i : Nat} (hi : i < 16) : gc_see w m i ↔ gf_seen w kn i := by
  unfold gc_see gf_seen
  rw [h4, (J.2.2.2.2.2.2.2.1 i hi).2.2.2.2.1, gJ_left J hi, J.2.2.2.1]
theorem gJ_ok1 (J : gJ_m w nm) (h4 : w (gp_ma m) 4 = w 107 kn) (h5 : w (gp_ma m) 5 = w 108 kn) (hms : ∀ i, i < n → ms i < nm) {i t : Nat} {tk : Nat → Nat} (hi : i < n) (ht : t < 4) : gcz_ok w m ms i t tk = gz_ok w kn ms i t tk := by
  have hm := hms i hi
  have h16 : ms i < 16 := by have := J.2.2.1; omega
  have e := J.2.2.2.2.2.2.2.1 (ms i) h16
  have eo := J.2.2.2.2.2.2.2.2.2.1 (ms i) hm
  rw [Bool.eq_iff_iff, gz_ok_iff]
  unfold gcz_ok gf_can gc_A
  have es := gJ_see J h4 (kn := kn) h16
  rw [← es]
  rcases (show t = 0 ∨ t = 1 ∨ t = 2 ∨ t = 3 by omega) with rfl | rfl | rfl | rfl
  · simp
  · rw [e.2.2.2.2.2.1, e.2.2.2.2.2.2, h5]
    constructor
    · intro h
      simp only [Bool.and_eq_true, Bool.or_eq_true, decide_eq_true_iff, if_true] at h
      obtain ⟨h1, h2⟩ := h
      have h1 := h1.resolve_left (by decide)
      have h2 := h2.resolve_left (fun z => z trivial)
      exact Or.inr ⟨h1.1, fun z => absurd z (by decide), fun _ => ⟨h2, h1.2.1⟩⟩
    · intro h
      obtain ⟨h1, -, h3⟩ := h.resolve_left (by decide)
      have h3 := h3 rfl
      simp only [Bool.and_eq_true, Bool.or_eq_true, decide_eq_true_iff, if_true]
      refine ⟨Or.inr ⟨h1, h3.2, ?_⟩, Or.inr h3.1⟩
      rw [gb_sub]
      intro b hb hg
      exact gb_R1 ((gb_sub _ _).mp h3.1 b hb hg)
  · have e7 : w (5 + ms i) (2 + 5) = w 103 (2 * ms i + 2 - 2) := eo.1
    rw [e7]
    simp
  · have e7 : w (5 + ms i) (3 + 5) = w 103 (2 * ms i + 3 - 2) := eo.2.1
    rw [e7]
    simp
theorem gJ_thing (J : gJ_m w nm) {i t : Nat} (hi : i < nm) (h0 : 0 < t) (ht : t < 4) : gc_tf w i t = gf_thing w i t ∧ (gf_thing w i t = -1 ∨ ∃ a : Nat, a < 16 ∧ gf_thing w i t = nI a) := by
  have h16 : i < 16 := by have := J.2.2.1; omega
  have e := J.2.2.2.2.2.2.2.1 i h16
  have eo := J.2.2.2.2.2.2.2.2.2.1 i hi
  have et := (J.2.2.2.2.2.2.2.2.1 i h16).2.1
  unfold gc_tf gf_thing
  rcases (show t = 1 ∨ t = 2 ∨ t = 3 by omega) with rfl | rfl | rfl
  · rw [if_pos rfl, if_pos rfl]
    exact ⟨e.2.1, Or.inr et⟩
  · rw [if_neg (by decide), if_pos rfl, if_neg (by decide)]
    exact ⟨eo.1, eo.2.2.1⟩
  · rw [if_neg (by decide), if_neg (by decide), if_neg (by decide)]
    exact ⟨eo.2.1, eo.2.2.2.1⟩
theorem gb_m1 : ∀ x, x < 16 → gb ((1 : Int32) <<< ((-1 : Int32) &&& 31)) x = false := by decide
theorem gb_thing {v : Int32} {x : Nat} (hx : x < 16) (hv : v = -1 ∨ ∃ a : Nat, a < 16 ∧ v = nI a) : gb (1 <<< (v &&& 31)) x = decide (v = nI x) := by
  rcases hv with rfl | ⟨a, ha, rfl⟩
  · rw [gb_m1 x hx]
    symm
    refine decide_eq_false (fun z => ?_)
    exact absurd (show nI x < 0 by rw [← z]; decide) (nI_pos (by omega))
  · rw [gb_1 (by omega) (by omega)]
    rw [Bool.eq_iff_iff, decide_eq_true_iff, decide_eq_true_iff, nI_eq (by omega) (by omega)]
    exact ⟨fun z => z.symm, fun z => z.symm⟩
theorem gJ_T (J : gJ_m w nm) {tk : Nat → Nat} {x : Nat} (hx : x < 16) : ∀ {i : Nat}, (∀ j, j < i → ms j < nm) → (∀ j, j < i → tk j < 4) → gb (gz_T w ms tk i) x = gz_tw w ms tk (nI x) i
  | 0, _, _ => gb_0 x
  | i + 1, hms, h4 => by
    show gb (gz_T w ms tk i ||| gc_th1 w (ms i) (tk i)) x = (gz_tw w ms tk (nI x) i || (decide (0 < tk i) && decide (gf_thing w (ms i) (tk i) = nI x)))
    rw [gb_or, gJ_T J hx (fun j hj => hms j (by omega)) (fun j hj => h4 j (by omega))]
    congr 1
    unfold gc_th1
    by_cases c : tk i = 0
    · rw [if_pos c, c, gb_0]
      rfl
    · rw [if_neg c, decide_eq_true (by omega), Bool.true_and]
      have a := gJ_thing J (hms i (by omega)) (by omega) (h4 i (by omega))
      rw [a.1]
      exact gb_thing hx a.2
theorem gJ_b (J : gJ_m w nm) (hms : ∀ i, i < n → ms i < nm) {i t : Nat} {tk : Nat → Nat} (hi : i < n) (ht : t < 4) (h4 : ∀ j, j < i → tk j < 4) (ok : gz_ok w kn ms i t tk = true) : gcz_b w ms i t tk = gz_tb w ms i t tk := by
  unfold gcz_b gz_tb gc_th1
  by_cases c : t = 0
  · rw [if_pos c, if_pos Int32.and_zero, if_neg (by omega)]
  · have a := gJ_thing J (hms i hi) (by omega) ht
    rw [if_neg c, a.1]
    have hv : ¬ gf_thing w (ms i) t = -1 := by
      intro z
      rw [gz_ok_iff] at ok
      unfold gf_can at ok
      obtain ⟨-, o2, -⟩ := ok.resolve_left c
      unfold gf_thing at z
      by_cases c1 : t = 1
      · rw [if_pos c1] at z
        obtain ⟨b, hb, e⟩ := (J.2.2.2.2.2.2.2.2.1 (ms i) (by have := J.2.2.1; have := hms i hi; omega)).2.1
        rw [e] at z
        exact absurd (show nI b < 0 by rw [z]; decide) (nI_pos (by omega))
      · rw [if_neg c1] at z
        exact o2 (by omega) z
    obtain ⟨x, hx, ex⟩ := a.2.resolve_left hv
    rw [ex]
    have e1 := gb_and1 (gz_T w ms tk i) (k := x) (by omega)
    have e2 := gJ_T J (ms := ms) (tk := tk) hx (i := i) (fun j hj => hms j (by omega)) h4
    by_cases g : gz_tw w ms tk (nI x) i = true
    · rw [if_neg (fun z => by rw [e1, e2, g] at z; exact absurd z (by decide)), if_pos ⟨by omega, g⟩]
    · rw [if_pos (e1.mpr (by rw [e2]; simpa using g)), if_neg (fun z => g z.2)]
theorem gJ_wornI (J : gJ_m w nm) {i : Nat} (hi : i < 16) : (if gc_wear w i = 1 then (1 : Int32) else 0) = gf_worn w i := by
  unfold gc_wear gf_worn
  rw [gJ_left J hi, gJ_dep J hi, J.2.2.2.1]
  by_cases a : gf_left w (nI i) (w 95 1) ≤ 0
  · rw [if_pos a, if_neg (by decide), if_neg (fun z => by rw [Int32.lt_iff_toInt_lt] at z; rw [Int32.le_iff_toInt_le] at a; omega)]
  · rw [if_neg a]
    have a' : 0 < gf_left w (nI i) (w 95 1) := Int32.not_le.mp a
    by_cases b : gf_left w (nI i) (w 95 1) < w (5 + i) 3 / 2
    · rw [if_pos b, if_pos rfl, if_pos ⟨a', b⟩]
    · rw [if_neg b, if_neg (by decide), if_neg (fun z => b z.2)]
theorem gf_F_min (kd co le wo pl : Int32) (t tw : Nat) : gf_F kd co le wo pl (min t 2) tw = gf_F kd co le wo pl t tw := by
  have h1 : (1 < min t 2) = (1 < t) := by apply propext; omega
  have h2 : (min t 2 = 0) = (t = 0) := by apply propext; omega
  funext j
  unfold gf_F
  simp only [h1, h2]
theorem gJ_co (J : gJ_m w nm) (hms : ∀ i, i < n → ms i < nm) {i t : Nat} {tk : Nat → Nat} (hi : i < n) (ht : t < 4) (h4 : ∀ j, j < i → tk j < 4) (ok : gz_ok w kn ms i t tk = true) : gcz_co w ms PL i t tk = gz_co w ms (gz_P w ms PL) i t tk := by
  have hm := hms i hi
  have h16 : ms i < 16 := by have := J.2.2.1; omega
  have e := J.2.2.2.2.2.2.2.1 (ms i) h16
  unfold gcz_co gz_co gc_P gz_P gf_Q
  rw [gJ_b J hms hi ht h4 ok]
  have hb := gz_tb_lt w ms i t tk
  have d1 : (6 * i + 2 * min t 2 + gz_tb w ms i t tk) / 6 = i := by omega
  have d2 : (6 * i + 2 * min t 2 + gz_tb w ms i t tk) % 6 / 2 = min t 2 := by omega
  have d3 : (6 * i + 2 * min t 2 + gz_tb w ms i t tk) % 6 % 2 = gz_tb w ms i t tk := by omega
  have d4 : (8 * i + 2 * t + gz_tb w ms i t tk) / 8 = i := by omega
  have d5 : (8 * i + 2 * t + gz_tb w ms i t tk) % 8 / 2 = t := by omega
  have d6 : (8 * i + 2 * t + gz_tb w ms i t tk) % 2 = gz_tb w ms i t tk := by omega
  rw [d1, d2, d3, d4, d5, d6]
  unfold gc_Fm gf_Fm
  rw [gf_F_min, gJ_wornI J h16, gJ_left J h16, J.2.2.2.1, e.1, e.2.2.1]
theorem gJ_all (J : gJ_m w nm) (h4 : w (gp_ma m) 4 = w 107 kn) (h5 : w (gp_ma m) 5 = w 108 kn) (hms : ∀ i, i < n → ms i < nm) : gcz_all w m ms PL n = gz_all w kn ms PL n :=
  gz_c_congr n (fun i t tk hi ht h => ⟨gJ_ok1 J h4 h5 hms hi ht, fun ok => gJ_co J hms hi ht h ok⟩) n 0 _ _ (by omega) (fun j hj => absurd hj (by omega))
end

end
