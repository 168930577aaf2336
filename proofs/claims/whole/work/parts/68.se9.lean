section
variable {l : Launch} {G : gp_G} {d : Nat} {w : Nat → Nat → Int32} {u : Int64 × (Nat → Int64)} {q : Nat → Nat} {K : Option Value → gp_H → Prop}
/-! ===== the class's methods: cheapest ===== -/
theorem gz_par_le (tk : Nat → Nat) : ∀ (r i : Nat), gz_par tk r i ≤ i + r
  | 0, i => Nat.le_refl i
  | r + 1, i => by
    have a := gz_par_le tk r (i + 1)
    unfold gz_par
    split <;> omega
section
variable {n nm kn : Nat} {ms : Nat → Nat} {D : Nat → gy_D}
set_option maxRecDepth 100000 in
theorem sp_Gp_cheapest {k what : Int32} (J : gJ_m w nm) (Q : gJ_q w q D) (hM : gm_P u.1 n ms) (en : w 0 12 = nI n) (hms : ∀ i, i < n → ms i < nm) (h1 : ∀ kn e W, k = nI kn → kn < 6 → n ≤ 10 → gz_bs none (gz_all w kn ms (D kn).2.2.2.2.2.1 n) = some e → gs_R w W → K (some (.int (gz_ans w ms n e what))) (gv W u q)) (h0 : ¬ ((0 ≤ k ∧ k ≤ 5) ∧ n ≤ 10) → K (some (.int (-1))) (gv w u q)) : gp_Cal l G (d + 14) m_Gp_cheapest [.ref 0, .int k, .int what] (gv w u q) K := by
  refine gp_enter od_Gp_cheapest rfl ?_
  have hn16 := hM.2.1
  have h16 := J.2.2.1
  (repeat refine gp_gc [32, 47] od_Gp_cheapest rfl rfl ?_)
  refine sp_Gp_isMind (fun a1 b1 => ?_) (fun n1 => ?_)
  rotate_left
  · repeat refine gp_gc [32, 47] od_Gp_cheapest rfl rfl ?_
    first | refine And.intro (fun _ => ?_) (fun c => absurd rfl c) | refine And.intro (fun c => absurd rfl c) (fun _ => ?_)
    repeat refine gp_gc [32, 47] od_Gp_cheapest rfl rfl ?_
    exact h0 (fun z => n1 z.1)
  repeat refine gp_gc [32, 47] od_Gp_cheapest rfl rfl ?_
  first | refine And.intro (fun c => absurd c (by decide)) (fun _ => ?_) | refine And.intro (fun _ => ?_) (fun c => absurd c (by decide))
  repeat refine gp_gc [32, 47] od_Gp_cheapest rfl rfl ?_
  by_cases b3 : n ≤ 10
  rotate_left
  · refine gb_le_f (by rw [en]; exact nI_ge (a := 10) (by omega) (by omega)) ?_
    (repeat refine gp_gc [32, 47] od_Gp_cheapest rfl rfl ?_)
    exact h0 (fun z => b3 z.2)
  refine gb_le_t (by rw [en]; exact nI_le (b := 10) b3 (by decide)) ?_
  obtain ⟨kn, hk, ek, ec, ik⟩ := gc_mi a1 b1
  have h1 := fun e W => h1 kn e W ek hk b3
  -- the search, and what follows
  have go : ∀ ab : Int32, (ab = 1 ∧ 10 ≤ what ∧ what ≤ 9 + nI n) ∨ (ab = 0 ∧ ¬ (10 ≤ what ∧ what ≤ 9 + nI n) ∧ 0 ≤ what ∧ what ≤ 2) → gp_Go l G (d + 14) m_Gp_cheapest K 47 [some (.ref 0), some (.int k), some (.int what), some (.int ab), none] [] (gv w u q) 0 0 := by
    intro ab hab
    refine gp_go od_Gp_cheapest rfl ?_
    (repeat refine gp_gc [32, 47] od_Gp_cheapest rfl rfl ?_)
    refine sp_Gp_findCheapest (d := d) J Q hM b3 en hms hk ek (fun W e HW he hr => ?_)
    have h1 := h1 e W he (gX_R HW.1)
    have h4 := fun j hj => gz_all_4 he j hj
    have JW := gJ_m_R J (gX_R HW.1)
    have e012 : W 0 12 = nI n := by rw [HW.1 0 (by decide) (by decide) (by decide) (by decide)]; exact en
    unfold gz_ans at h1
    (repeat refine gp_gc [32, 47] od_Gp_cheapest rfl rfl ?_)
    rcases hab with ⟨z, w1, w2⟩ | ⟨z, w1, w2⟩
    · -- about a taking
      have e0 : ¬ what = 0 := fun z => by rw [z] at w1; exact absurd w1 (by decide)
      have e1 : ¬ what = 1 := fun z => by rw [z] at w1; exact absurd w1 (by decide)
      rw [if_neg e0, if_neg e1, if_pos ⟨w1, w2⟩] at h1
      have t1 := Int32.le_iff_toInt_le.mp w1
      have t2 := Int32.le_iff_toInt_le.mp w2
      rw [show (9 : Int32) + nI n = nI (9 + n) from nI_add 9 n, nI_toInt (by omega)] at t2
      have t3 : (10 : Int32).toInt = 10 := by decide
      obtain ⟨p, hp, ep⟩ : ∃ p : Nat, p < n ∧ what = nI (p + 10) := by
        refine ⟨(what.toInt - 10).toNat, by omega, Int32.toInt_inj.mp ?_⟩
        rw [nI_toInt (by omega)]
        omega
      have es : what - 10 = nI p := by rw [ep]; exact pk_sub (a := p + 10) (b := 10) (by omega)
      refine gb1_eq_f (by rw [z]; decide) ?_
      (repeat refine gp_gc [32, 47] od_Gp_cheapest rfl rfl ?_)
      refine sp_Se_cheapestTaking (d := d + 13) (n := n) (p := p) HW.2.1 b3 es hp ?_
      (repeat refine gp_gc [32, 47] od_Gp_cheapest rfl rfl ?_)
      rw [es, nI_clamp (by omega), ← hr.2.2.2 p hp] at h1
      exact h1
    · refine gb1_eq_t z ?_
      (repeat refine gp_gc [32, 47] od_Gp_cheapest rfl rfl ?_)
      by_cases e0 : what = 0
      · rw [if_pos e0, ← hr.2.1] at h1
        refine gb1_ne_f e0 ?_
        (repeat refine gp_gc [32, 47] od_Gp_cheapest rfl rfl ?_)
        exact h1
      rw [if_neg e0] at h1
      refine gb1_ne_t e0 ?_
      (repeat refine gp_gc [32, 47] od_Gp_cheapest rfl rfl ?_)
      refine sp_Se_partingPlace (d := d + 13) (n := n) (tk := e.2) HW.2.1 b3 hr.2.2.2 h4 ?_
      (repeat refine gp_gc [32, 47] od_Gp_cheapest rfl rfl ?_)
      by_cases e1 : what = 1
      · rw [if_pos e1] at h1
        refine gb_ne_f e1 ?_
        (repeat refine gp_gc [32, 47] od_Gp_cheapest rfl rfl ?_)
        by_cases e2 : gz_par e.2 n 0 = n
        · rw [if_pos e2] at h1 ⊢
          refine gb_ne_f rfl ?_
          (repeat refine gp_gc [32, 47] od_Gp_cheapest rfl rfl ?_)
          exact h1
        · rw [if_neg e2] at h1 ⊢
          have hp : gz_par e.2 n 0 < n := by have := gz_par_le e.2 n 0; omega
          refine gb_ne_t (fun z => absurd (show nI (gz_par e.2 n 0) < 0 by rw [z]; decide) (nI_pos (by omega))) ?_
          (repeat refine gp_gc [32, 47] od_Gp_cheapest rfl rfl ?_)
          refine sp_Gp_markAt (d := d + 13) hM rfl hp ?_
          (repeat refine gp_gc [32, 47] od_Gp_cheapest rfl rfl ?_)
          exact h1
      · rw [if_neg e1, if_neg w1] at h1
        have e3 : what = 2 := by
          rcases gf_w2 w2.1 w2.2 with z | z | z
          · exact absurd z e0
          · exact absurd z e1
          · exact z
        rw [if_pos e3] at h1
        refine gb_ne_t e1 ?_
        (repeat refine gp_gc [32, 47] od_Gp_cheapest rfl rfl ?_)
        by_cases e2 : gz_par e.2 n 0 = n
        · have ez : gz_fall w ms e.2 (gz_par e.2 n 0) n = 0 := by
            rw [e2]
            unfold gz_fall
            rw [show n - (n + 1) = 0 by omega]
            rfl
          rw [ez] at h1
          rw [if_pos e2]
          refine gb_ne_f rfl ?_
          (repeat refine gp_gc [32, 47] od_Gp_cheapest rfl rfl ?_)
          exact h1
        · rw [if_neg e2]
          have hp : gz_par e.2 n 0 < n := by have := gz_par_le e.2 n 0; omega
          refine gb_ne_t (fun z => absurd (show nI (gz_par e.2 n 0) < 0 by rw [z]; decide) (nI_pos (by omega))) ?_
          (repeat refine gp_gc [32, 47] od_Gp_cheapest rfl rfl ?_)
          refine sp_Se_fallsFrom (d := d + 12) (n := n) (ms := ms) (tk := e.2) JW HW.2.1 b3 HW.2.2.1 (fun j hj => by have := hms j hj; omega) hr.2.2.2 h4 rfl hp ?_
          (repeat refine gp_gc [32, 47] od_Gp_cheapest rfl rfl ?_)
          have eF : gz_fall W ms e.2 (gz_par e.2 n 0) n = gz_fall w ms e.2 (gz_par e.2 n 0) n := by
            unfold gz_fall gz_flS
            rw [HW.1 101 (by decide) (by decide) (by decide) (by decide)]
          rw [eF]
          exact h1
  (repeat refine gp_gc [32, 47] od_Gp_cheapest rfl rfl ?_)
  refine sp_Gp_within (d := d + 13) (fun a2 b2 => ?_) (fun n2 => ?_)
  · (repeat refine gp_gc [32, 47] od_Gp_cheapest rfl rfl ?_)
    refine gp_go od_Gp_cheapest rfl ?_
    (repeat refine gp_gc [32, 47] od_Gp_cheapest rfl rfl ?_)
    refine gb1_ne_t (by decide) ?_
    (repeat refine gp_gc [32, 47] od_Gp_cheapest rfl rfl ?_)
    refine go _ (Or.inl ⟨rfl, a2, ?_⟩)
    rw [en] at b2
    exact b2
  · rw [en] at n2
    (repeat refine gp_gc [32, 47] od_Gp_cheapest rfl rfl ?_)
    refine gp_go od_Gp_cheapest rfl ?_
    (repeat refine gp_gc [32, 47] od_Gp_cheapest rfl rfl ?_)
    refine gb1_ne_f rfl ?_
    (repeat refine gp_gc [32, 47] od_Gp_cheapest rfl rfl ?_)
    refine sp_Gp_within (d := d + 13) (fun a3 b3 => ?_) (fun n3 => ?_)
    · (repeat refine gp_gc [32, 47] od_Gp_cheapest rfl rfl ?_)
      refine gb1_ne_t (by decide) ?_
      (repeat refine gp_gc [32, 47] od_Gp_cheapest rfl rfl ?_)
      exact go _ (Or.inr ⟨rfl, n2, a3, b3⟩)
    · (repeat refine gp_gc [32, 47] od_Gp_cheapest rfl rfl ?_)
      refine gb1_ne_f rfl ?_
      (repeat refine gp_gc [32, 47] od_Gp_cheapest rfl rfl ?_)
      obtain ⟨e, he⟩ := gz_all_s w kn ms (D kn).2.2.2.2.2.1 n
      have h1 := h1 e w he (gs_refl w)
      have n2' : ¬ (10 ≤ what ∧ what ≤ 9 + nI n) := n2
      unfold gz_ans at h1
      rw [if_neg (fun z => n3 (by rw [z]; decide)), if_neg (fun z => n3 (by rw [z]; decide)), if_neg n2', if_neg (fun z => n3 (by rw [z]; decide))] at h1
      exact h1
end

end
