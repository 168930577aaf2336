section
variable {l : Launch} {G : gp_G} {d : Nat} {w : Nat → Nat → Int32} {u : Int64 × (Nat → Int64)} {q : Nat → Nat} {K : Option Value → gp_H → Prop}
/-! ===== the reference's methods: cheapest ===== -/
theorem gz_bs_mem {e : gz_S} : ∀ {L : List gz_S} {c : Option gz_S}, gz_bs c L = some e → c = some e ∨ e ∈ L
  | [], c, h => Or.inl h
  | x :: L, c, h => by
    have h : gz_bs (gz_b1 c x) L = some e := h
    rcases gz_bs_mem h with h | h
    · cases c with
      | none =>
        have : x = e := Option.some.inj h
        exact Or.inr (by rw [this]; exact List.mem_cons_self)
      | some b =>
        by_cases hlt : x.1 < b.1
        · have h2 : gz_b1 (some b) x = some x := if_pos hlt
          rw [h2] at h
          have : x = e := Option.some.inj h
          exact Or.inr (by rw [this]; exact List.mem_cons_self)
        · have h2 : gz_b1 (some b) x = some b := if_neg hlt
          rw [h2] at h
          exact Or.inl h
    · exact Or.inr (List.mem_cons_of_mem _ h)
theorem gz_bs_s : ∀ (L : List gz_S) (b : gz_S), ∃ e, gz_bs (some b) L = some e
  | [], b => ⟨b, rfl⟩
  | x :: L, b => by
    by_cases hlt : x.1 < b.1
    · have h2 : gz_b1 (some b) x = some x := if_pos hlt
      obtain ⟨e, he⟩ := gz_bs_s L x
      exact ⟨e, by show gz_bs (gz_b1 (some b) x) L = _; rw [h2]; exact he⟩
    · have h2 : gz_b1 (some b) x = some b := if_neg hlt
      obtain ⟨e, he⟩ := gz_bs_s L b
      exact ⟨e, by show gz_bs (gz_b1 (some b) x) L = _; rw [h2]; exact he⟩
theorem gz_bs_some : ∀ {L : List gz_S}, L ≠ [] → ∃ e, gz_bs none L = some e
  | [], h => absurd rfl h
  | x :: L, _ => gz_bs_s L x
theorem gz_c_ne {ok : Nat → Nat → (Nat → Nat) → Bool} {co : Nat → Nat → (Nat → Nat) → Nat} (h0 : ∀ i tk, ok i 0 tk = true) : ∀ (f i : Nat) (tk : Nat → Nat) (s : Nat), gz_c ok co f i tk s ≠ []
  | 0, i, tk, s => List.cons_ne_nil _ _
  | f + 1, i, tk, s => by
    intro h
    unfold gz_c gz_l at h
    have h := (List.append_eq_nil_iff.mp h).1
    rw [if_pos (h0 i tk)] at h
    exact gz_c_ne h0 f _ _ _ h
theorem gz_c_4 {ok : Nat → Nat → (Nat → Nat) → Bool} {co : Nat → Nat → (Nat → Nat) → Nat} : ∀ (f i : Nat) (tk : Nat → Nat) (s : Nat) (e : gz_S), e ∈ gz_c ok co f i tk s → (∀ j, j < i → tk j < 4) → ∀ j, j < i + f → e.2 j < 4
  | 0, i, tk, s, e, h, h4, j, hj => by
    simp only [gz_c, List.mem_singleton] at h
    rw [h]
    exact h4 j (by omega)
  | f + 1, i, tk, s, e, h, h4, j, hj => by
    obtain ⟨t, _, ht, h⟩ := gz_l_mem h
    by_cases b : ok i t tk = true
    · rw [if_pos b] at h
      refine gz_c_4 f (i + 1) _ _ e h (fun j hj => ?_) j (by omega)
      unfold gz_u
      by_cases e : j = i
      · rw [if_pos e]; omega
      · rw [if_neg e]; exact h4 j (by omega)
    · rw [if_neg b] at h
      exact absurd h (List.not_mem_nil)
theorem gz_all_s (w : Nat → Nat → Int32) (kn : Nat) (ms : Nat → Nat) (PL : List (gf_L × gf_L)) (n : Nat) : ∃ e, gz_bs none (gz_all w kn ms PL n) = some e :=
  gz_bs_some (gz_c_ne (fun i tk => gz_ok_iff.mpr (Or.inl rfl)) n 0 _ 0)
theorem gz_all_4 {w : Nat → Nat → Int32} {kn : Nat} {ms : Nat → Nat} {PL : List (gf_L × gf_L)} {n : Nat} {e : gz_S} (h : gz_bs none (gz_all w kn ms PL n) = some e) (j : Nat) (hj : j < n) : e.2 j < 4 := by
  rcases gz_bs_mem h with h | h
  · exact absurd h (by simp)
  · exact gz_c_4 n 0 _ 0 e h (fun j hj => by omega) j (by omega)
def gz_par (tk : Nat → Nat) : Nat → Nat → Nat
  | 0, i => i
  | r + 1, i => if tk i = 1 then gz_par tk r (i + 1) else i
def gz_flS (w : Nat → Nat → Int32) (ms tk : Nat → Nat) (p j : Nat) (n : Int32) : Int32 := n + (if (gf_an (w 101) (ms j) (1 <<< (nI (ms j) &&& 31)) >>> (nI (ms p) &&& 31)) &&& 1 = 1 ∧ ¬ tk j = 1 then 1 else 0)
def gz_fall (w : Nat → Nat → Int32) (ms tk : Nat → Nat) (p n : Nat) : Int32 := gp_it (gz_flS w ms tk p) (p + 1) (n - (p + 1)) 0
def gz_ans (w : Nat → Nat → Int32) (ms : Nat → Nat) (n : Nat) (e : gz_S) (what : Int32) : Int32 := if what = 0 then nI e.1 else if what = 1 then (if gz_par e.2 n 0 = n then -1 else nI (ms (gz_par e.2 n 0))) else if 10 ≤ what ∧ what ≤ 9 + nI n then nI (e.2 (what - 10).toNatClampNeg) else if what = 2 then gz_fall w ms e.2 (gz_par e.2 n 0) n else -1
theorem gs_ms {w W : Nat → Nat → Int32} {n : Nat} {ms : Nat → Nat} (h : gs_R w W) (hm : gf_ms w n ms) : gf_ms W n ms := by
  unfold gf_ms
  rw [h.2.1 2 rfl, h.1 105 rfl (by decide) (by decide), h.1 96 rfl (by decide) (by decide)]
  exact hm
section
variable {kn n : Nat} {ms : Nat → Nat} {PL : List (gf_L × gf_L)}
set_option maxRecDepth 100000 in
theorem gl_Rf_cheapest {k what : Int32} {e : gz_S} (hm : gf_ms w n ms) (hn : n ≤ 10) (he : w 95 49 = nI e.1) (h4 : ∀ j, j < n → w 125 j = nI (e.2 j) ∧ e.2 j < 4) (h : K (some (.int (gz_ans w ms n e what))) (gv w u q)) : ∀ p, p = gz_par e.2 n 0 → p ≤ n → gp_Go l G (d + 16) m_Rf_cheapest K 50 [some (.ref 95), some (.int k), some (.int what), some (.int (nI p)), none, none] [] (gv w u q) 0 0 := by
  intro p ep hp
  unfold gz_ans at h
  rw [← ep] at h
  refine gp_go od_Rf_cheapest rfl ?_
  (repeat refine gp_gc [26, 50, 124] od_Rf_cheapest rfl rfl ?_)
  by_cases b0 : what = 0
  · rw [if_pos b0, ← he] at h
    refine gb1_ne_f b0 ?_
    (repeat refine gp_gc [26, 50, 124] od_Rf_cheapest rfl rfl ?_)
    exact h
  rw [if_neg b0] at h
  refine gb1_ne_t b0 ?_
  (repeat refine gp_gc [26, 50, 124] od_Rf_cheapest rfl rfl ?_)
  by_cases b1 : what = 1
  · rw [if_pos b1] at h
    refine gb_ne_f b1 ?_
    (repeat refine gp_gc [26, 50, 124] od_Rf_cheapest rfl rfl ?_)
    by_cases b2 : p = n
    · rw [if_pos b2] at h
      refine gb_ne_f (show nI p = w 95 2 by rw [hm.1, b2]) ?_
      (repeat refine gp_gc [26, 50, 124] od_Rf_cheapest rfl rfl ?_)
      exact h
    · rw [if_neg b2] at h
      refine gb_ne_t (show ¬ nI p = w 95 2 by rw [hm.1]; exact fun z => b2 ((nI_eq (by omega) (by omega)).mp z)) ?_
      (repeat refine gp_gc [26, 50, 124] od_Rf_cheapest rfl rfl ?_)
      refine And.intro (vp_in_nI (by omega) (by decide)) ?_
      (repeat refine gp_gc [26, 50, 124] od_Rf_cheapest rfl rfl ?_)
      rw [show (nI p).toNatClampNeg = p from nI_clamp (by omega), (hm.2 p (by omega)).1]
      exact h
  rw [if_neg b1] at h
  refine gb_ne_t b1 ?_
  (repeat refine gp_gc [26, 50, 124] od_Rf_cheapest rfl rfl ?_)
  refine sp_Rf_isIn (fun a2 b2 => ?_) (fun b2 => ?_)
  · have a2 : 10 ≤ what := a2
    have b2 : what ≤ 9 + w 95 2 := b2
    rw [hm.1] at b2
    rw [if_pos ⟨a2, b2⟩] at h
    (repeat refine gp_gc [26, 50, 124] od_Rf_cheapest rfl rfl ?_)
    refine gb1_eq_f (by decide) ?_
    (repeat refine gp_gc [26, 50, 124] od_Rf_cheapest rfl rfl ?_)
    have e19 : (9 : Int32) + nI n = nI (9 + n) := by show nI 9 + nI n = _; rw [nI_add]
    obtain ⟨x, hx, ex⟩ := nI_of2 (n := 9 + n) (M := 9 + nI n) (by rw [e19]; exact nI_toInt (by omega)) (fun z => absurd (Int32.lt_of_lt_of_le z (show (0 : Int32) ≤ 10 by decide)) (Int32.not_lt.mpr a2)) b2
    have hx10 : 10 ≤ x := by
      rw [ex] at a2
      exact (nI_leI (a := 10) (by decide) (by omega)).mp a2
    have e3 : what - 10 = nI (x - 10) := by rw [ex]; exact pk_sub (b := 10) hx10
    have c3 : (what - 10).toNatClampNeg = x - 10 := by rw [e3]; exact nI_clamp (by omega)
    refine And.intro (show vp_in (what - 10) 10 by rw [e3]; exact vp_in_nI (by omega) (by decide)) ?_
    (repeat refine gp_gc [26, 50, 124] od_Rf_cheapest rfl rfl ?_)
    rw [c3, ← (h4 (x - 10) (by omega)).1] at h
    rw [show (what - (Int8.ofInt 10).toInt32).toNatClampNeg = x - 10 from c3]
    exact h
  · have b2 : ¬ (10 ≤ what ∧ what ≤ 9 + w 95 2) := b2
    rw [hm.1] at b2
    rw [if_neg b2] at h
    (repeat refine gp_gc [26, 50, 124] od_Rf_cheapest rfl rfl ?_)
    refine gb1_eq_t rfl ?_
    (repeat refine gp_gc [26, 50, 124] od_Rf_cheapest rfl rfl ?_)
    by_cases b3 : what = 2
    rotate_left
    · rw [if_neg b3] at h
      refine gb_eq_f b3 ?_
      (repeat refine gp_gc [26, 50, 124] od_Rf_cheapest rfl rfl ?_)
      exact h
    rw [if_pos b3] at h
    refine gb_eq_t b3 ?_
    (repeat refine gp_gc [26, 50, 124] od_Rf_cheapest rfl rfl ?_)
    rw [gp_inc (i := p) rfl]
    by_cases bp : p = n
    · have e0 : gz_fall w ms e.2 p n = 0 := by
        unfold gz_fall
        rw [show n - (p + 1) = 0 by omega]
        rfl
      rw [e0] at h
      refine gp_go od_Rf_cheapest rfl ?_
      (repeat refine gp_gc [26, 50, 124] od_Rf_cheapest rfl rfl ?_)
      refine gb_ge_t (show w 95 2 ≤ nI (p + 1) by rw [hm.1]; exact nI_le (by omega) (by omega)) ?_
      (repeat refine gp_gc [26, 50, 124] od_Rf_cheapest rfl rfl ?_)
      exact h
    refine gp_iter (P := fun j s => ∀ x, x = nI j → gp_Go l G (d + 16) m_Rf_cheapest K 124 [some (.ref 95), some (.int k), some (.int what), some (.int (nI p)), some (.int s), some (.int x)] [] (gv w u q) 0 0) (gz_flS w ms e.2 p) n ?_ (n - (p + 1)) (p + 1) 0 (by omega) ?_ (nI (p + 1)) rfl
    · intro j s hj hpj x ex
      subst ex
      have hpj := hpj _ (gp_inc rfl)
      unfold gz_flS at hpj
      obtain ⟨m1, m2, m3⟩ := hm.2 j hj
      have cj : (nI j).toNatClampNeg = j := nI_clamp (by omega)
      have cp : (nI p).toNatClampNeg = p := nI_clamp (by omega)
      refine gp_go od_Rf_cheapest rfl ?_
      (repeat refine gp_gc [26, 50, 124] od_Rf_cheapest rfl rfl ?_)
      refine gb_ge_f (show ¬ w 95 2 ≤ nI j by rw [hm.1]; exact nI_ge hj (by omega)) ?_
      (repeat refine gp_gc [26, 50, 124] od_Rf_cheapest rfl rfl ?_)
      refine And.intro (vp_in_nI (by omega) (by decide)) ?_
      (repeat refine gp_gc [26, 50, 124] od_Rf_cheapest rfl rfl ?_)
      rw [cj, m1]
      refine sp_Rf_allNeeds (d := d + 15) rfl m2 ?_
      (repeat refine gp_gc [26, 50, 124] od_Rf_cheapest rfl rfl ?_)
      refine And.intro (vp_in_nI (by omega) (by decide)) ?_
      (repeat refine gp_gc [26, 50, 124] od_Rf_cheapest rfl rfl ?_)
      rw [cp, (hm.2 p (by omega)).1]
      by_cases c1 : (gf_an (w 101) (ms j) (1 <<< (nI (ms j) &&& 31)) >>> (nI (ms p) &&& 31)) &&& 1 = 1
      rotate_left
      · rw [if_neg (fun z => c1 z.1)] at hpj
        refine gb_ne_t c1 ?_
        (repeat refine gp_gc [26, 50, 124] od_Rf_cheapest rfl rfl ?_)
        exact hpj
      refine gb_ne_f c1 ?_
      (repeat refine gp_gc [26, 50, 124] od_Rf_cheapest rfl rfl ?_)
      refine And.intro (vp_in_nI (by omega) (by decide)) ?_
      (repeat refine gp_gc [26, 50, 124] od_Rf_cheapest rfl rfl ?_)
      rw [cj, (h4 j hj).1]
      by_cases c2 : e.2 j = 1
      · rw [if_neg (fun z => z.2 c2)] at hpj
        refine gb_eq_t (show nI (e.2 j) = nI 1 by rw [c2]) ?_
        (repeat refine gp_gc [26, 50, 124] od_Rf_cheapest rfl rfl ?_)
        exact hpj
      · rw [if_pos ⟨c1, c2⟩] at hpj
        refine gb_eq_f (fun z => c2 ((nI_eq (b := 1) (by have := (h4 j hj).2; omega) (by decide)).mp z)) ?_
        (repeat refine gp_gc [26, 50, 124] od_Rf_cheapest rfl rfl ?_)
        exact hpj
    · intro x ex
      subst ex
      refine gp_go od_Rf_cheapest rfl ?_
      (repeat refine gp_gc [26, 50, 124] od_Rf_cheapest rfl rfl ?_)
      refine gb_ge_t (show w 95 2 ≤ nI n by rw [hm.1]; exact Int32.le_refl _) ?_
      (repeat refine gp_gc [26, 50, 124] od_Rf_cheapest rfl rfl ?_)
      exact h
theorem gz_ans_congr {w W : Nat → Nat → Int32} {e : gz_S} {what : Int32} (h : W 101 = w 101) : gz_ans W ms n e what = gz_ans w ms n e what := by
  have e1 : gz_fall W ms e.2 (gz_par e.2 n 0) n = gz_fall w ms e.2 (gz_par e.2 n 0) n := by
    unfold gz_fall
    have : gz_flS W ms e.2 (gz_par e.2 n 0) = gz_flS w ms e.2 (gz_par e.2 n 0) := by
      funext j s
      unfold gz_flS
      rw [h]
    rw [this]
  unfold gz_ans
  rw [e1]
set_option maxRecDepth 100000 in
theorem sp_Rf_cheapest {k what : Int32} {PLf : Nat → List (gf_L × gf_L)} (hmi : ∀ kn, kn < 6 → gf_mind w kn (PLf kn)) (hm : gf_ms w n ms) (hn : n ≤ 16) (h1 : ∀ kn e W, k = nI kn → kn < 6 → n ≤ 10 → gz_bs none (gz_all w kn ms (PLf kn) n) = some e → gs_R w W → K (some (.int (gz_ans w ms n e what))) (gv W u q)) (h0 : ¬ ((0 ≤ k ∧ k ≤ 5) ∧ n ≤ 10) → K (some (.int (-1))) (gv w u q)) : gp_Cal l G (d + 16) m_Rf_cheapest [.ref 95, .int k, .int what] (gv w u q) K := by
  refine gp_enter od_Rf_cheapest rfl ?_
  (repeat refine gp_gc [26, 50] od_Rf_cheapest rfl rfl ?_)
  refine sp_Rf_isMind (fun a1 b1 => ?_) (fun n1 => ?_)
  rotate_left
  · repeat refine gp_gc [26, 50] od_Rf_cheapest rfl rfl ?_
    first | refine And.intro (fun _ => ?_) (fun c => absurd rfl c) | refine And.intro (fun c => absurd rfl c) (fun _ => ?_)
    repeat refine gp_gc [26, 50] od_Rf_cheapest rfl rfl ?_
    exact h0 (fun z => n1 z.1)
  repeat refine gp_gc [26, 50] od_Rf_cheapest rfl rfl ?_
  first | refine And.intro (fun c => absurd c (by decide)) (fun _ => ?_) | refine And.intro (fun _ => ?_) (fun c => absurd c (by decide))
  repeat refine gp_gc [26, 50] od_Rf_cheapest rfl rfl ?_
  by_cases b3 : n ≤ 10
  rotate_left
  · refine gb_le_f (show ¬ w 95 2 ≤ nI 10 by rw [hm.1]; exact nI_ge (by omega) (by omega)) ?_
    (repeat refine gp_gc [26, 50] od_Rf_cheapest rfl rfl ?_)
    exact h0 (fun z => b3 z.2)
  refine gb_le_t (show w 95 2 ≤ nI 10 by rw [hm.1]; exact nI_le b3 (by decide)) ?_
  (repeat refine gp_gc [26, 50] od_Rf_cheapest rfl rfl ?_)
  obtain ⟨kn, hkn, ek⟩ := nI_of2 (n := 5) (M := 5) rfl (Int32.not_lt.mpr a1) b1
  have hM := hmi kn (by omega)
  refine sp_Rf_seeks (d := d) ek (show kn < 7 by omega) hM hm b3 (fun W hW hr => ?_)
  obtain ⟨e, he⟩ := gz_all_s w kn ms (PLf kn) n
  have h1 := h1 kn e W ek (by omega) b3 he hW
  rw [he] at hr
  obtain ⟨r1, r2, r3⟩ := hr
  have hmW := gs_ms hW hm
  rw [← gz_ans_congr (hW.1 101 rfl (by decide) (by decide))] at h1
  (repeat refine gp_gc [26, 50] od_Rf_cheapest rfl rfl ?_)
  have key : ∀ (r i : Nat), i + r = n → gz_par e.2 n 0 = gz_par e.2 r i → gp_Go l G (d + 16) m_Rf_cheapest K 26 [some (.ref 95), some (.int k), some (.int what), some (.int (nI i)), none, none] [] (gv W u q) 0 0 := by
    intro r
    induction r with
    | zero =>
      intro i hi ep
      have hin : i = n := by omega
      refine gp_go od_Rf_cheapest rfl ?_
      (repeat refine gp_gc [26, 50] od_Rf_cheapest rfl rfl ?_)
      refine gb_ge_t (show W 95 2 ≤ nI i by rw [hmW.1, hin]; exact Int32.le_refl _) ?_
      (repeat refine gp_gc [26, 50] od_Rf_cheapest rfl rfl ?_)
      exact gl_Rf_cheapest hmW b3 r1 (fun j hj => ⟨r3 j hj, gz_all_4 he j hj⟩) h1 i ep.symm (by omega)
    | succ r ih =>
      intro i hi ep
      have ci : (nI i).toNatClampNeg = i := nI_clamp (by omega)
      have hi4 := gz_all_4 he i (by omega)
      refine gp_go od_Rf_cheapest rfl ?_
      (repeat refine gp_gc [26, 50] od_Rf_cheapest rfl rfl ?_)
      refine gb_ge_f (show ¬ W 95 2 ≤ nI i by rw [hmW.1]; exact nI_ge (by omega) (by omega)) ?_
      (repeat refine gp_gc [26, 50] od_Rf_cheapest rfl rfl ?_)
      refine And.intro (vp_in_nI (by omega) (by decide)) ?_
      (repeat refine gp_gc [26, 50] od_Rf_cheapest rfl rfl ?_)
      rw [ci, r3 i (by omega)]
      have ep : gz_par e.2 n 0 = (if e.2 i = 1 then gz_par e.2 r (i + 1) else i) := ep
      by_cases c : e.2 i = 1
      · rw [if_pos c] at ep
        refine gb_ne_f (show nI (e.2 i) = nI 1 by rw [c]) ?_
        (repeat refine gp_gc [26, 50] od_Rf_cheapest rfl rfl ?_)
        rw [gp_inc (i := i) rfl]
        exact ih (i + 1) (by omega) ep
      · rw [if_neg c] at ep
        refine gb_ne_t (fun z => c ((nI_eq (b := 1) (by omega) (by decide)).mp z)) ?_
        (repeat refine gp_gc [26, 50] od_Rf_cheapest rfl rfl ?_)
        exact gl_Rf_cheapest hmW b3 r1 (fun j hj => ⟨r3 j hj, gz_all_4 he j hj⟩) h1 i ep.symm (by omega)
  exact key n 0 (by omega) rfl
end

end
