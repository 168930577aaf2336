section
variable {l : Launch} {G : gp_G} {d : Nat} {w : Nat → Nat → Int32} {u : Int64 × (Nat → Int64)} {q : Nat → Nat} {K : Option Value → gp_H → Prop}
/-! ===== the class's methods: trial, agrees ===== -/
section
variable {n nm T : Nat} {ms tl : Nat → Nat} {tm : Nat → Nat → Nat} {D : Nat → gy_D}
set_option maxRecDepth 100000 in
theorem sp_Gp_takingAt {V : gp_H} {t x : Int32} {i : Nat} (ex : x = nI i) (h : K (some (.int (gf_tkI t i))) V) : gp_Cal l G d m_Gp_takingAt [.int t, .int x] V K := by
  subst ex
  refine gp_enter od_Gp_takingAt rfl ?_
  (repeat refine gp_gc [] od_Gp_takingAt rfl rfl ?_)
  exact h
theorem gf_tkI_4 (t : Int32) (i : Nat) : ∃ a : Nat, a < 4 ∧ gf_tkI t i = nI a := by
  obtain ⟨a, ha, e⟩ := pk_andE (t >>> ((2 * nI i) &&& 31)) (m := 3) 2 (by decide)
  exact ⟨a, ha, e⟩
set_option maxRecDepth 100000 in
theorem sp_Gp_othersAreThere {t : Int32} (J : gJ_m w nm) (hM : gm_P u.1 n ms) (en : w 0 12 = nI n) (hms : ∀ i, i < n → ms i < nm) (h1 : gf_trC w ms t n → K (some (.int 1)) (gv w u q)) (h0 : ¬ gf_trC w ms t n → K (some (.int 0)) (gv w u q)) : gp_Cal l G (d + 1) m_Gp_othersAreThere [.ref 0, .int t] (gv w u q) K := by
  refine gp_enter od_Gp_othersAreThere rfl ?_
  have hn := hM.2.1
  have h16 := J.2.2.1
  have loop : ∀ (r j : Nat), j + r = n → (∀ i a, i < j → a < 4 → gf_tkI t i = nI a → 1 < a → ¬ w 103 (2 * ms i + a - 2) = -1) → gp_Go l G (d + 1) m_Gp_othersAreThere K 2 [some (.ref 0), some (.int t), some (.int (nI j)), none, none] [] (gv w u q) 0 0 := by
    intro r
    induction r with
    | zero =>
      intro j hj hall
      have ej : j = n := by omega
      refine gp_go od_Gp_othersAreThere rfl ?_
      (repeat refine gp_gc [2, 52] od_Gp_othersAreThere rfl rfl ?_)
      refine gb_ge_t (by rw [en, ej]; exact Int32.le_refl _) ?_
      (repeat refine gp_gc [2, 52] od_Gp_othersAreThere rfl rfl ?_)
      exact And.intro (Or.inr rfl) (h1 (by rw [ej] at hall; exact hall))
    | succ r ih =>
      intro j hj hall
      have inc : nI j + Int32.ofInt 1 = nI (j + 1) := gp_inc rfl
      have hmj := hms j (by omega)
      have cm : (nI (ms j)).toNatClampNeg = ms j := nI_clamp (by omega)
      obtain ⟨a, ha, ea⟩ := gf_tkI_4 t j
      have nxt : (1 < a → ¬ w 103 (2 * ms j + a - 2) = -1) → gp_Go l G (d + 1) m_Gp_othersAreThere K 52 [some (.ref 0), some (.int t), some (.int (nI j)), some (.ref (5 + ms j)), some (.int (nI a))] [] (gv w u q) 0 0 := by
        intro hok
        refine gp_go od_Gp_othersAreThere rfl ?_
        (repeat refine gp_gc [2, 52] od_Gp_othersAreThere rfl rfl ?_)
        rw [inc]
        refine gp_drop 3 (gp_drop 4 ?_)
        refine ih (j + 1) (by omega) (fun i b hi hb eb h1b => ?_)
        by_cases c : i = j
        · rw [c] at eb ⊢
          rw [ea] at eb
          have e := (nI_eq (by omega) (by omega)).mp eb
          rw [← e] at h1b ⊢
          exact hok h1b
        · exact hall i b (by omega) hb eb h1b
      refine gp_go od_Gp_othersAreThere rfl ?_
      (repeat refine gp_gc [2, 52] od_Gp_othersAreThere rfl rfl ?_)
      refine gb_ge_f (by rw [en]; exact nI_ge (by omega) (by omega)) ?_
      (repeat refine gp_gc [2, 52] od_Gp_othersAreThere rfl rfl ?_)
      refine sp_Gp_markAt (d := d) hM rfl (by omega) ?_
      (repeat refine gp_gc [2, 52] od_Gp_othersAreThere rfl rfl ?_)
      refine And.intro (vp_in_nI (by omega) (by decide)) ⟨_, rfl, ?_⟩
      rw [cm]
      (repeat refine gp_gc [2, 52] od_Gp_othersAreThere rfl rfl ?_)
      refine sp_Gp_takingAt (d := d) rfl ?_
      rw [ea]
      (repeat refine gp_gc [2, 52] od_Gp_othersAreThere rfl rfl ?_)
      by_cases c : a < 2
      · refine gb_lt_t (nI_lt (b := 2) c (by decide)) ?_
        (repeat refine gp_gc [2, 52] od_Gp_othersAreThere rfl rfl ?_)
        exact nxt (fun z => absurd z (by omega))
      · have ht := (gJ_thing J hmj (t := a) (by omega) ha).1
        unfold gc_tf gf_thing at ht
        rw [if_neg (show ¬ a = 1 by omega), if_neg (show ¬ a = 1 by omega)] at ht
        refine gb_lt_f (nI_nlt (b := 2) (by omega) (by omega)) ?_
        (repeat refine gp_gc [2, 52] od_Gp_othersAreThere rfl rfl ?_)
        refine gs_inv rfl rfl rfl (gv_mark (by omega)) rfl ?_
        refine sp_Mk_takenFor (d := d) (by omega) ?_
        have q1 : ¬ nI a = 1 := fun z => absurd ((nI_eq (b := 1) (by omega) (by decide)).mp z) (by omega)
        have q2 : nI a = 2 ↔ a = 2 := nI_eq (b := 2) (by omega) (by decide)
        rw [if_neg q1]
        simp only [q2]
        rw [ht]
        (repeat refine gp_gc [2, 52] od_Gp_othersAreThere rfl rfl ?_)
        by_cases e : w 103 (2 * ms j + a - 2) = -1
        · refine gb_ne_f e ?_
          (repeat refine gp_gc [2, 52] od_Gp_othersAreThere rfl rfl ?_)
          exact And.intro (Or.inl rfl) (h0 (fun z => z j a (by omega) ha ea (by omega) e))
        · refine gb_ne_t e ?_
          (repeat refine gp_gc [2, 52] od_Gp_othersAreThere rfl rfl ?_)
          exact nxt (fun _ => e)
  (repeat refine gp_gc [2, 52] od_Gp_othersAreThere rfl rfl ?_)
  exact loop n 0 (by omega) (fun i a hi => absurd hi (by omega))
set_option maxRecDepth 100000 in
theorem sp_Tr_add {M : Int64} {len t : Int32} (eT : w 91 3 = nI T) (hT : T ≤ 40) (h1 : T < 40 → K (some (.int (nI T))) (gv (gw (gw (gw w 93 T len) 94 T t) 91 3 (nI (T + 1))) (u.1, vp_updL u.2 T M) q)) (h0 : ¬ T < 40 → K (some (.int (-1))) (gv w u q)) : gp_Cal l G (d + 0) m_Tr_add [.ref 91, .long M, .int len, .int t] (gv w u q) K := by
  refine gp_enter od_Tr_add rfl ?_
  have cT : (w 91 3).toNatClampNeg = T := by rw [eT]; exact nI_clamp (by omega)
  (repeat refine gp_gc [] od_Tr_add rfl rfl ?_)
  by_cases c : T < 40
  · have i1 : vp_in (w 91 3) 40 := by rw [eT]; exact vp_in_nI c (by decide)
    have e1 : w 91 3 + 1 = nI (T + 1) := by rw [eT]; exact nI_1 T
    have e2 : nI T = w 91 3 + 1 - 1 := by rw [e1]; exact (nI_pred T).symm
    have h1 := h1 c
    rw [← e1, e2, ← cT] at h1
    refine gb_lt_t (by rw [eT]; exact nI_lt (b := 40) c (by decide)) ?_
    (repeat refine gp_gc [] od_Tr_add rfl rfl ?_)
    refine And.intro i1 ?_
    (repeat refine gp_gc [] od_Tr_add rfl rfl ?_)
    refine And.intro i1 ?_
    (repeat refine gp_gc [] od_Tr_add rfl rfl ?_)
    refine And.intro i1 ?_
    (repeat refine gp_gc [] od_Tr_add rfl rfl ?_)
    exact h1
  · refine gb_lt_f (by rw [eT]; exact nI_nlt (b := 40) (by omega) (by omega)) ?_
    (repeat refine gp_gc [] od_Tr_add rfl rfl ?_)
    exact h0 c
set_option maxRecDepth 100000 in
theorem sp_Gp_trial {t : Int32} (J : gJ_m w nm) (hM : gm_P u.1 n ms) (en : w 0 12 = nI n) (hms : ∀ i, i < n → ms i < nm) (eT : w 91 3 = nI T) (hT : T ≤ 40) (h1 : 1 ≤ n → n ≤ 10 → 0 ≤ t → t ≤ 1 <<< ((2 * nI n) &&& 31) - 1 → T < 40 → gf_trC w ms t n → K (some (.int (nI T))) (gv (gw (gw (gw w 93 T (nI n)) 94 T t) 91 3 (nI (T + 1))) (u.1, vp_updL u.2 T u.1) q)) (h0 : ¬ (1 ≤ n ∧ n ≤ 10 ∧ (0 ≤ t ∧ t ≤ 1 <<< ((2 * nI n) &&& 31) - 1) ∧ T < 40 ∧ gf_trC w ms t n) → K (some (.int (-1))) (gv w u q)) : gp_Cal l G (d + 2) m_Gp_trial [.ref 0, .int t] (gv w u q) K := by
  refine gp_enter od_Gp_trial rfl ?_
  have hn := hM.2.1
  have bad : ¬ (1 ≤ n ∧ n ≤ 10 ∧ 0 ≤ t ∧ t ≤ 1 <<< ((2 * nI n) &&& 31) - 1) → gp_Go l G (d + 2) m_Gp_trial K 37 [some (.ref 0), some (.int t), some (.int 0)] [] (gv w u q) 0 0 := by
    intro hb
    refine gp_go od_Gp_trial rfl ?_
    (repeat refine gp_gc [37] od_Gp_trial rfl rfl ?_)
    refine gb1_eq_t rfl ?_
    (repeat refine gp_gc [37] od_Gp_trial rfl rfl ?_)
    exact h0 (fun z => hb ⟨z.1, z.2.1, z.2.2.1⟩)
  have good : 1 ≤ n → n ≤ 10 → 0 ≤ t → t ≤ 1 <<< ((2 * nI n) &&& 31) - 1 → gp_Go l G (d + 2) m_Gp_trial K 37 [some (.ref 0), some (.int t), some (.int 1)] [] (gv w u q) 0 0 := by
    intro g1 g2 g3 g4
    refine gp_go od_Gp_trial rfl ?_
    (repeat refine gp_gc [37] od_Gp_trial rfl rfl ?_)
    refine gb1_eq_f (by decide) ?_
    (repeat refine gp_gc [37] od_Gp_trial rfl rfl ?_)
    refine sp_Gp_othersAreThere (d := d) J hM en hms (fun g5 => ?_) (fun g5 => ?_)
    · (repeat refine gp_gc [37] od_Gp_trial rfl rfl ?_)
      refine gb1_ne_t (by decide) ?_
      (repeat refine gp_gc [37] od_Gp_trial rfl rfl ?_)
      refine sp_Tr_add (d := d + 1) eT hT (fun c => ?_) (fun c => ?_)
      · rw [en]
        (repeat refine gp_gc [37] od_Gp_trial rfl rfl ?_)
        exact h1 g1 g2 g3 g4 c g5
      · (repeat refine gp_gc [37] od_Gp_trial rfl rfl ?_)
        exact h0 (fun z => c z.2.2.2.1)
    · (repeat refine gp_gc [37] od_Gp_trial rfl rfl ?_)
      refine gb1_ne_f rfl ?_
      (repeat refine gp_gc [37] od_Gp_trial rfl rfl ?_)
      exact h0 (fun z => g5 z.2.2.2.2)
  (repeat refine gp_gc [37] od_Gp_trial rfl rfl ?_)
  rw [en]
  refine sp_Gp_within (d := d + 1) (fun a1 b1 => ?_) (fun n1 => ?_)
  rotate_left
  · (repeat refine gp_gc [37] od_Gp_trial rfl rfl ?_)
    refine gb1_eq_t rfl ?_
    (repeat refine gp_gc [37] od_Gp_trial rfl rfl ?_)
    refine bad (fun z => n1 ⟨?_, ?_⟩)
    · exact nI_le (a := 1) z.1 (by omega)
    · exact nI_le (b := 10) z.2.1 (by decide)
  have a1 : 1 ≤ n := (nI_leI (a := 1) (by decide) (by omega)).mp a1
  have b1 : n ≤ 10 := (nI_leI (b := 10) (by omega) (by decide)).mp b1
  (repeat refine gp_gc [37] od_Gp_trial rfl rfl ?_)
  refine gb1_eq_f (by decide) ?_
  (repeat refine gp_gc [37] od_Gp_trial rfl rfl ?_)
  rw [en]
  refine sp_Gp_within (d := d + 1) (fun a2 b2 => ?_) (fun n2 => ?_)
  · (repeat refine gp_gc [37] od_Gp_trial rfl rfl ?_)
    refine gb1_eq_f (by decide) ?_
    (repeat refine gp_gc [37] od_Gp_trial rfl rfl ?_)
    exact good a1 b1 a2 b2
  · (repeat refine gp_gc [37] od_Gp_trial rfl rfl ?_)
    refine gb1_eq_t rfl ?_
    (repeat refine gp_gc [37] od_Gp_trial rfl rfl ?_)
    exact bad (fun z => n2 z.2.2)
/-- the trials -/
def gJ_t (w : Nat → Nat → Int32) (u : Int64 × (Nat → Int64)) (nm T : Nat) (tl : Nat → Nat) (tm : Nat → Nat → Nat) : Prop := w 91 3 = nI T ∧ w 95 65 = nI T ∧ T ≤ 40 ∧ ∀ t, t < T → w 93 t = nI (tl t) ∧ w 137 t = nI (tl t) ∧ 1 ≤ tl t ∧ tl t ≤ 10 ∧ w 94 t = w 139 t ∧ gm_P (u.2 t) (tl t) (tm t) ∧ ∀ i, i < tl t → tm t i < nm ∧ w 138 (10 * t + i) = nI (tm t i)
theorem gJ_t_R {W : Nat → Nat → Int32} (h : gs_R w W) (Jt : gJ_t w u nm T tl tm) : gJ_t W u nm T tl tm := by
  unfold gJ_t
  rw [h.1 91 rfl (by decide) (by decide), h.1 93 rfl (by decide) (by decide), h.1 94 rfl (by decide) (by decide), h.1 137 rfl (by decide) (by decide), h.1 138 rfl (by decide) (by decide), h.1 139 rfl (by decide) (by decide), h.2.1 65 rfl]
  exact Jt
theorem gJ_tr (J : gJ_m w nm) (Jt : gJ_t w u nm T tl tm) : gf_tr w T tl tm := ⟨Jt.2.1, Jt.2.2.1, fun t ht => by
  obtain ⟨a, b, c, e, f, g, h⟩ := Jt.2.2.2 t ht
  refine ⟨b, c, e, fun i hi => ?_⟩
  have h16 := J.2.2.1
  have hh := h i hi
  exact ⟨hh.2, by omega, gJ_k2 J (by omega)⟩⟩
set_option maxRecDepth 100000 in
theorem sp_Gp_agrees {t : Int32} {ef : Nat → Nat → gz_S} (J : gJ_m w nm) (Q : gJ_q w q D) (Jt : gJ_t w u nm T tl tm) (hef : ∀ t, t < T → ∀ k, k < 6 → gz_bs none (gz_all w k (tm t) (D k).2.2.2.2.2.1 (tl t)) = some (ef t k)) (h1 : ∀ tN W, t = nI tN → tN < T → gs_R w W → K (some (.int (gp_it (gz_agS (w 139 tN) (tl tN) (ef tN)) 0 6 0))) (gv W u q)) (h0 : ¬ (0 ≤ t ∧ t ≤ nI T - 1) → K (some (.int (-1))) (gv w u q)) : gp_Cal l G (d + 14) m_Gp_agrees [.ref 0, .int t] (gv w u q) K := by
  refine gp_enter od_Gp_agrees rfl ?_
  have hT := Jt.2.2.1
  (repeat refine gp_gc [23] od_Gp_agrees rfl rfl ?_)
  refine sp_Gp_within (d := d + 13) (fun a1 b1 => ?_) (fun n1 => ?_)
  rotate_left
  · rw [Jt.1] at n1
    (repeat refine gp_gc [23] od_Gp_agrees rfl rfl ?_)
    refine gb1_ne_f rfl ?_
    (repeat refine gp_gc [23] od_Gp_agrees rfl rfl ?_)
    exact h0 n1
  rw [Jt.1] at b1
  obtain ⟨tN, hN, eN⟩ : ∃ tN, tN < T ∧ t = nI tN := by
    rcases pk_ix t (n := T) (by omega) with z | z | z
    · exact absurd z (Int32.not_lt.mpr a1)
    · exfalso
      obtain ⟨j, hj, e⟩ := nI_of (Int32.not_lt.mpr a1)
      rw [e] at z b1
      have z := (nI_leI (by omega) hj).mp z
      rcases Nat.eq_zero_or_pos T with h | h
      · rw [h] at b1
        exact absurd (Int32.lt_of_le_of_lt b1 (show nI 0 - 1 < 0 by decide)) (nI_pos hj)
      · rw [show nI T - Int32.ofInt 1 = nI (T - 1) from pk_sub (b := 1) h] at b1
        have := (nI_leI hj (by omega)).mp b1
        omega
    · exact z
  obtain ⟨t93, t137, t1, t10, t94, tP, tI⟩ := Jt.2.2.2 tN hN
  have ct : t.toNatClampNeg = tN := by rw [eN]; exact nI_clamp (by omega)
  have it : vp_in t 40 := by rw [eN]; exact vp_in_nI (by omega) (by decide)
  have h1 := fun W => h1 tN W eN hN
  have loop : ∀ (r k : Nat) (s : Int32) (W : Nat → Nat → Int32), k + r = 6 → gs_R w W → (∀ W, gs_R w W → K (some (.int (gp_it (gz_agS (w 139 tN) (tl tN) (ef tN)) k r s))) (gv W u q)) → gp_Go l G (d + 14) m_Gp_agrees K 23 [some (.ref 0), some (.int t), some (.int s), some (.int (nI k))] [] (gv W u q) 0 0 := by
    intro r
    induction r with
    | zero =>
      intro k s W hk hR h
      have ek : k = 6 := by omega
      subst ek
      refine gp_go od_Gp_agrees rfl ?_
      (repeat refine gp_gc [23] od_Gp_agrees rfl rfl ?_)
      refine gb_ge_t (by decide) ?_
      (repeat refine gp_gc [23] od_Gp_agrees rfl rfl ?_)
      exact h W hR
    | succ r ih =>
      intro k s W hk hR h
      have inc : nI k + Int32.ofInt 1 = nI (k + 1) := gp_inc rfl
      have JW := gJ_m_R J hR
      have QW := gJ_q_R Q hR
      have e93 : W 93 tN = nI (tl tN) := by rw [hR.1 93 rfl (by decide) (by decide)]; exact t93
      refine gp_go od_Gp_agrees rfl ?_
      (repeat refine gp_gc [23] od_Gp_agrees rfl rfl ?_)
      refine gb_ge_f (nI_ge (b := 6) (by omega) (by decide)) ?_
      (repeat refine gp_gc [23] od_Gp_agrees rfl rfl ?_)
      refine And.intro it ?_
      (repeat refine gp_gc [23] od_Gp_agrees rfl rfl ?_)
      refine And.intro it ?_
      rw [ct]
      (repeat refine gp_gc [23] od_Gp_agrees rfl rfl ?_)
      refine sp_Gp_findCheapest (d := d) (w := W) (kn := k) JW QW tP t10 e93 (fun i hi => (tI i hi).1) (by omega) rfl (fun W2 e HW he hr => ?_)
      have he2 : e = ef tN k := by
        rw [gz_all_congr (gf_same_R hR), hef tN hN k (by omega)] at he
        exact (Option.some.inj he).symm
      have hR2 := gs_trans hR (gX_R HW.1)
      (repeat refine gp_gc [23] od_Gp_agrees rfl rfl ?_)
      refine sp_Se_cheapestPacked (d := d + 13) (n := tl tN) (tk := e.2) HW.2.1 t10 hr.2.2.2 ?_
      (repeat refine gp_gc [23] od_Gp_agrees rfl rfl ?_)
      refine And.intro it ?_
      rw [ct]
      (repeat refine gp_gc [23] od_Gp_agrees rfl rfl ?_)
      have e94 : W2 94 tN = w 139 tN := by rw [hR2.1 94 rfl (by decide) (by decide)]; exact t94
      rw [e94, he2]
      by_cases c : gz_pk (ef tN k).2 (tl tN) = w 139 tN
      · refine gb_ne_f c ?_
        (repeat refine gp_gc [23] od_Gp_agrees rfl rfl ?_)
        rw [inc]
        refine ih (k + 1) _ W2 (by omega) hR2 (fun W hW => ?_)
        have h := h W hW
        have e1 : gp_it (gz_agS (w 139 tN) (tl tN) (ef tN)) k (r + 1) s = gp_it (gz_agS (w 139 tN) (tl tN) (ef tN)) (k + 1) r (s ||| 1 <<< (nI k &&& 31)) := by
          show gp_it _ (k + 1) r (gz_agS (w 139 tN) (tl tN) (ef tN) k s) = _
          unfold gz_agS
          rw [if_pos c]
        rw [e1] at h
        exact h
      · refine gb_ne_t c ?_
        (repeat refine gp_gc [23] od_Gp_agrees rfl rfl ?_)
        rw [inc]
        refine ih (k + 1) _ W2 (by omega) hR2 (fun W hW => ?_)
        have h := h W hW
        have e1 : gp_it (gz_agS (w 139 tN) (tl tN) (ef tN)) k (r + 1) s = gp_it (gz_agS (w 139 tN) (tl tN) (ef tN)) (k + 1) r s := by
          show gp_it _ (k + 1) r (gz_agS (w 139 tN) (tl tN) (ef tN) k s) = _
          unfold gz_agS
          rw [if_neg c, Int32.or_zero]
        rw [e1] at h
        exact h
  (repeat refine gp_gc [23] od_Gp_agrees rfl rfl ?_)
  refine gb1_ne_t (by decide) ?_
  (repeat refine gp_gc [23] od_Gp_agrees rfl rfl ?_)
  exact loop 6 0 0 w (by omega) (gs_refl w) h1
end

end
