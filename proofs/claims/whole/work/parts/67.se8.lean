section
variable {l : Launch} {G : gp_G} {d : Nat} {w : Nat → Nat → Int32} {u : Int64 × (Nat → Int64)} {q : Nat → Nat} {K : Option Value → gp_H → Prop}
/-! ===== the class's methods: readings, cheapest ===== -/
section
variable {n nm m kn : Nat} {ms : Nat → Nat} {PL : List (gf_L × gf_L)} {S : Nat → Nat → Int32} {D : Nat → gy_D}
theorem sp_Se_count12 {p : Int32} {b : Nat} (H : gS_H w S m n ms PL) (hn : n ≤ 10) (hms : ∀ i, i < n → ms i < 16) (ep : p = nI b) (hb : b ≤ 9999) (h : ∀ W, gX w W → K (some (.int (nI (gz_ct b 0 (gcz_all w m ms PL n))))) (gv W u q)) : gp_Cal l G (d + 12) m_Se_countUpTo [.ref 65, .int p] (gv S u q) K := by
  have a := sp_Se_countUpTo (l := l) (G := G) (d := d + (10 - n)) H hn hms ep hb h
  rw [show d + (10 - n) + n + 2 = d + 12 by omega] at a
  exact a
theorem sp_Se_find12 (H : gS_H w S m n ms PL) (hn : n ≤ 10) (hms : ∀ i, i < n → ms i < 16) (h : ∀ W, gS_H w W m n ms PL → gW_rb n (gz_bs none (gcz_all w m ms PL n)) W → K none (gv W u q)) : gp_Cal l G (d + 12) m_Se_findCheapest [.ref 65] (gv S u q) K := by
  have a := sp_Se_findCheapest (l := l) (G := G) (d := d + (10 - n)) H hn hms h
  rw [show d + (10 - n) + n + 2 = d + 12 by omega] at a
  exact a
theorem gJ_q4 (Q : gJ_q w q D) (hk : kn < 6) : w (gp_ma (q kn)) 4 = w 107 kn ∧ w (gp_ma (q kn)) 5 = w 108 kn := ⟨(Q.2 kn hk).2.1.1.trans (Q.2 kn hk).1.1.symm, (Q.2 kn hk).2.1.2.1.trans (Q.2 kn hk).1.2.1.symm⟩
set_option maxRecDepth 100000 in
theorem sp_Gp_readings {k price : Int32} (J : gJ_m w nm) (Q : gJ_q w q D) (hM : gm_P u.1 n ms) (en : w 0 12 = nI n) (hms : ∀ i, i < n → ms i < nm) (h1 : ∀ kn b W, k = nI kn → kn < 6 → price = nI b → b ≤ 9999 → n ≤ 10 → gs_R w W → K (some (.int (if 2000 < gz_ct b 0 (gz_all w kn ms (D kn).2.2.2.2.2.1 n) then -2 else nI (gz_ct b 0 (gz_all w kn ms (D kn).2.2.2.2.2.1 n))))) (gv W u q)) (h0 : ¬ ((0 ≤ k ∧ k ≤ 5) ∧ (0 ≤ price ∧ price ≤ 9999) ∧ n ≤ 10) → K (some (.int (-1))) (gv w u q)) : gp_Cal l G (d + 13) m_Gp_readings [.ref 0, .int k, .int price] (gv w u q) K := by
  refine gp_enter od_Gp_readings rfl ?_
  have hn16 := hM.2.1
  have h16 := J.2.2.1
  (repeat refine gp_gc [] od_Gp_readings rfl rfl ?_)
  refine sp_Gp_isMind (fun a1 b1 => ?_) (fun n1 => ?_)
  rotate_left
  · repeat refine gp_gc [] od_Gp_readings rfl rfl ?_
    first | refine And.intro (fun _ => ?_) (fun c => absurd rfl c) | refine And.intro (fun c => absurd rfl c) (fun _ => ?_)
    repeat refine gp_gc [] od_Gp_readings rfl rfl ?_
    exact h0 (fun z => n1 z.1)
  repeat refine gp_gc [] od_Gp_readings rfl rfl ?_
  first | refine And.intro (fun c => absurd c (by decide)) (fun _ => ?_) | refine And.intro (fun _ => ?_) (fun c => absurd c (by decide))
  repeat refine gp_gc [] od_Gp_readings rfl rfl ?_
  refine sp_Gp_within (fun a2 b2 => ?_) (fun n1 => ?_)
  rotate_left
  · repeat refine gp_gc [] od_Gp_readings rfl rfl ?_
    first | refine And.intro (fun _ => ?_) (fun c => absurd rfl c) | refine And.intro (fun c => absurd rfl c) (fun _ => ?_)
    repeat refine gp_gc [] od_Gp_readings rfl rfl ?_
    exact h0 (fun z => n1 z.2.1)
  repeat refine gp_gc [] od_Gp_readings rfl rfl ?_
  first | refine And.intro (fun c => absurd c (by decide)) (fun _ => ?_) | refine And.intro (fun _ => ?_) (fun c => absurd c (by decide))
  repeat refine gp_gc [] od_Gp_readings rfl rfl ?_
  by_cases b3 : n ≤ 10
  rotate_left
  · refine gb_le_f (by rw [en]; exact nI_ge (a := 10) (by omega) (by omega)) ?_
    (repeat refine gp_gc [] od_Gp_readings rfl rfl ?_)
    exact h0 (fun z => b3 z.2.2)
  refine gb_le_t (by rw [en]; exact nI_le (b := 10) b3 (by decide)) ?_
  (repeat refine gp_gc [] od_Gp_readings rfl rfl ?_)
  obtain ⟨kn, hk, ek, ec, ik⟩ := gc_mi a1 b1
  obtain ⟨b, hb, eb⟩ := nI_of2 (n := 9999) (M := 9999) rfl (Int32.not_lt.mpr a2) b2
  refine And.intro ik ⟨_, rfl, ?_⟩
  rw [ec]
  (repeat refine gp_gc [] od_Gp_readings rfl rfl ?_)
  have Q1 := (Q.2 kn hk).2.1
  have hq := Q.1.1 kn (by omega)
  refine sp_Se_setUp (d := d + 7) (n := n) (ms := ms) (PL := (D kn).2.2.2.2.2.1) hq hM b3 en (fun i hi => gJ_k J hi) Q1.2.2.2.1 Q1.2.2.2.2.1 Q1.2.2.2.2.2.1 (fun S HS => ?_)
  (repeat refine gp_gc [] od_Gp_readings rfl rfl ?_)
  refine sp_Se_count12 (d := d) HS b3 (fun i hi => by have := hms i hi; omega) eb hb (fun W hX => ?_)
  have h1 := h1 kn b W ek hk eb hb b3 (gX_R hX)
  have q4 := gJ_q4 Q hk
  rw [gJ_all J q4.1 q4.2 hms]
  have lt : gz_ct b 0 (gz_all w kn ms (D kn).2.2.2.2.2.1 n) ≤ 2001 := Nat.min_le_left _ _
  (repeat refine gp_gc [] od_Gp_readings rfl rfl ?_)
  by_cases c : 2000 < gz_ct b 0 (gz_all w kn ms (D kn).2.2.2.2.2.1 n)
  · rw [if_pos c] at h1
    refine gb_le_f (nI_ge (a := 2000) c (by omega)) ?_
    (repeat refine gp_gc [] od_Gp_readings rfl rfl ?_)
    exact h1
  · rw [if_neg c] at h1
    refine gb_le_t (nI_le (b := 2000) (by omega) (by decide)) ?_
    (repeat refine gp_gc [] od_Gp_readings rfl rfl ?_)
    exact h1
set_option maxRecDepth 100000 in
theorem sp_Gp_findCheapest {M : Int64} {len k : Int32} (J : gJ_m w nm) (Q : gJ_q w q D) (hM : gm_P M n ms) (hn : n ≤ 10) (el : len = nI n) (hms : ∀ i, i < n → ms i < nm) (hk : kn < 6) (ek : k = nI kn) (h : ∀ W e, gS_H w W (q kn) n ms (D kn).2.2.2.2.2.1 → gz_bs none (gz_all w kn ms (D kn).2.2.2.2.2.1 n) = some e → gW_rb n (some e) W → K none (gv W u q)) : gp_Cal l G (d + 13) m_Gp_findCheapest [.ref 0, .long M, .int len, .int k] (gv w u q) K := by
  refine gp_enter od_Gp_findCheapest rfl ?_
  have h16 := J.2.2.1
  have ec : k.toNatClampNeg = kn := by rw [ek]; exact nI_clamp (by omega)
  have Q1 := (Q.2 kn hk).2.1
  have hq := Q.1.1 kn (by omega)
  have q4 := gJ_q4 Q hk
  (repeat refine gp_gc [] od_Gp_findCheapest rfl rfl ?_)
  refine And.intro (by rw [ek]; exact vp_in_nI (by omega) (by decide)) ⟨_, rfl, ?_⟩
  rw [ec]
  (repeat refine gp_gc [] od_Gp_findCheapest rfl rfl ?_)
  refine sp_Se_setUp (d := d + 7) (n := n) (ms := ms) (PL := (D kn).2.2.2.2.2.1) hq hM hn el (fun i hi => gJ_k J hi) Q1.2.2.2.1 Q1.2.2.2.2.1 Q1.2.2.2.2.2.1 (fun S HS => ?_)
  (repeat refine gp_gc [] od_Gp_findCheapest rfl rfl ?_)
  refine sp_Se_find12 (d := d) HS hn (fun i hi => by have := hms i hi; omega) (fun W HW hr => ?_)
  (repeat refine gp_gc [] od_Gp_findCheapest rfl rfl ?_)
  rw [gJ_all J q4.1 q4.2 hms] at hr
  obtain ⟨e, he⟩ := gz_all_s w kn ms (D kn).2.2.2.2.2.1 n
  rw [he] at hr
  exact h W e HW he hr
set_option maxRecDepth 100000 in
theorem sp_Se_cheapestTaking {x : Int32} {p : Nat} (e8 : w 65 8 = nI n) (hn : n ≤ 10) (ex : x = nI p) (hp : p < n) (h : K (some (.int (w 71 p))) (gv w u q)) : gp_Cal l G (d + 0) m_Se_cheapestTaking [.ref 65, .int x] (gv w u q) K := by
  refine gp_enter od_Se_cheapestTaking rfl ?_
  have ec : x.toNatClampNeg = p := by rw [ex]; exact nI_clamp (by omega)
  (repeat refine gp_gc [] od_Se_cheapestTaking rfl rfl ?_)
  refine gb1_lt_f (by rw [ex]; exact nI_pos (by omega)) ?_
  (repeat refine gp_gc [] od_Se_cheapestTaking rfl rfl ?_)
  refine gb_ge_f (by rw [ex, e8]; exact nI_ge hp (by omega)) ?_
  (repeat refine gp_gc [] od_Se_cheapestTaking rfl rfl ?_)
  refine And.intro (by rw [ex]; exact vp_in_nI (by omega) (by decide)) ?_
  rw [ec]
  (repeat refine gp_gc [] od_Se_cheapestTaking rfl rfl ?_)
  exact h
set_option maxRecDepth 100000 in
theorem sp_Se_partingPlace {tk : Nat → Nat} (e8 : w 65 8 = nI n) (hn : n ≤ 10) (h71 : ∀ j, j < n → w 71 j = nI (tk j)) (h4 : ∀ j, j < n → tk j < 4) (h : K (some (.int (if gz_par tk n 0 = n then -1 else nI (gz_par tk n 0)))) (gv w u q)) : gp_Cal l G (d + 0) m_Se_partingPlace [.ref 65] (gv w u q) K := by
  refine gp_enter od_Se_partingPlace rfl ?_
  have loop : ∀ (r j : Nat), j + r = n → K (some (.int (if gz_par tk r j = n then -1 else nI (gz_par tk r j)))) (gv w u q) → gp_Go l G (d + 0) m_Se_partingPlace K 2 [some (.ref 65), some (.int (nI j))] [] (gv w u q) 0 0 := by
    intro r
    induction r with
    | zero =>
      intro j hj h
      have ej : j = n := by omega
      subst ej
      have h : K (some (.int (if j = j then -1 else nI j))) (gv w u q) := h
      rw [if_pos rfl] at h
      refine gp_go od_Se_partingPlace rfl ?_
      (repeat refine gp_gc [2] od_Se_partingPlace rfl rfl ?_)
      refine gb_ge_t (by rw [e8]; exact Int32.le_refl _) ?_
      (repeat refine gp_gc [2] od_Se_partingPlace rfl rfl ?_)
      exact h
    | succ r ih =>
      intro j hj h
      have cj : (nI j).toNatClampNeg = j := nI_clamp (by omega)
      have inc : nI j + Int32.ofInt 1 = nI (j + 1) := gp_inc rfl
      have b4 := h4 j (by omega)
      refine gp_go od_Se_partingPlace rfl ?_
      (repeat refine gp_gc [2] od_Se_partingPlace rfl rfl ?_)
      refine gb_ge_f (by rw [e8]; exact nI_ge (by omega) (by omega)) ?_
      (repeat refine gp_gc [2] od_Se_partingPlace rfl rfl ?_)
      refine And.intro (vp_in_nI (by omega) (by decide)) ?_
      rw [cj, h71 j (by omega)]
      (repeat refine gp_gc [2] od_Se_partingPlace rfl rfl ?_)
      by_cases c : tk j = 1
      · have h : K (some (.int (if gz_par tk r (j + 1) = n then -1 else nI (gz_par tk r (j + 1))))) (gv w u q) := by
          have e : gz_par tk (r + 1) j = gz_par tk r (j + 1) := if_pos c
          rw [e] at h
          exact h
        refine gb_eq_t (by rw [c]; rfl) ?_
        (repeat refine gp_gc [2] od_Se_partingPlace rfl rfl ?_)
        rw [inc]
        exact ih (j + 1) (by omega) h
      · have h : K (some (.int (nI j))) (gv w u q) := by
          have e : gz_par tk (r + 1) j = j := if_neg c
          rw [e, if_neg (by omega)] at h
          exact h
        refine gb_eq_f (fun z => c ((nI_eq (b := 1) (by omega) (by decide)).mp z)) ?_
        (repeat refine gp_gc [2] od_Se_partingPlace rfl rfl ?_)
        exact h
  (repeat refine gp_gc [2] od_Se_partingPlace rfl rfl ?_)
  exact loop n 0 (by omega) h
theorem gf_an_congr {nd nd' : Nat → Int32} : ∀ {k : Nat} {s : Int32}, (∀ j, j ≤ k → nd j = nd' j) → gf_an nd k s = gf_an nd' k s
  | 0, s, h => by
    unfold gf_an
    rw [h 0 (by omega)]
  | k + 1, s, h => by
    unfold gf_an
    rw [h (k + 1) (by omega)]
    exact gf_an_congr (fun j hj => h j (by omega))
set_option maxRecDepth 100000 in
theorem sp_Se_fallsFrom {x : Int32} {p : Nat} {tk : Nat → Nat} (J : gJ_m w nm) (e8 : w 65 8 = nI n) (hn : n ≤ 10) (h66 : ∀ j, j < n → w 66 j = nI (ms j)) (hms : ∀ j, j < n → ms j < 16) (h71 : ∀ j, j < n → w 71 j = nI (tk j)) (h4 : ∀ j, j < n → tk j < 4) (ex : x = nI p) (hp : p < n) (h : K (some (.int (gz_fall w ms tk p n))) (gv w u q)) : gp_Cal l G (d + 1) m_Se_fallsFrom [.ref 65, .int x] (gv w u q) K := by
  refine gp_enter od_Se_fallsFrom rfl ?_
  subst ex
  have cp : (nI p).toNatClampNeg = p := nI_clamp (by omega)
  have loop : ∀ (r j : Nat) (s : Int32), j + r = n → K (some (.int (gp_it (gz_flS w ms tk p) j r s))) (gv w u q) → gp_Go l G (d + 1) m_Se_fallsFrom K 6 [some (.ref 65), some (.int (nI p)), some (.int s), some (.int (nI j))] [] (gv w u q) 0 0 := by
    intro r
    induction r with
    | zero =>
      intro j s hj hh
      have ej : j = n := by omega
      refine gp_go od_Se_fallsFrom rfl ?_
      (repeat refine gp_gc [6, 53] od_Se_fallsFrom rfl rfl ?_)
      refine gb_ge_t (by rw [e8, ej]; exact Int32.le_refl _) ?_
      (repeat refine gp_gc [6, 53] od_Se_fallsFrom rfl rfl ?_)
      exact hh
    | succ r ih =>
      intro j s hj h
      have h : K (some (.int (gp_it (gz_flS w ms tk p) (j + 1) r (gz_flS w ms tk p j s)))) (gv w u q) := h
      have cj : (nI j).toNatClampNeg = j := nI_clamp (by omega)
      have inc : nI j + Int32.ofInt 1 = nI (j + 1) := gp_inc rfl
      have b4 := h4 j (by omega)
      have hmj := hms j (by omega)
      have eR : gf_an (fun j => w (5 + j) 5) (ms j) (1 <<< (nI (ms j) &&& 31)) = gf_an (w 101) (ms j) (1 <<< (nI (ms j) &&& 31)) := gf_an_congr (fun i hi => (J.2.2.2.2.2.2.2.1 i (by omega)).2.2.2.2.2.1)
      have nxt : ∀ s', s' = gz_flS w ms tk p j s → gp_Go l G (d + 1) m_Se_fallsFrom K 53 [some (.ref 65), some (.int (nI p)), some (.int s'), some (.int (nI j))] [] (gv w u q) 0 0 := by
        intro s' es
        subst es
        refine gp_go od_Se_fallsFrom rfl ?_
        (repeat refine gp_gc [6, 53] od_Se_fallsFrom rfl rfl ?_)
        rw [inc]
        exact ih (j + 1) _ (by omega) h
      unfold gz_flS at nxt
      refine gp_go od_Se_fallsFrom rfl ?_
      (repeat refine gp_gc [6, 53] od_Se_fallsFrom rfl rfl ?_)
      refine gb_ge_f (by rw [e8]; exact nI_ge (by omega) (by omega)) ?_
      (repeat refine gp_gc [6, 53] od_Se_fallsFrom rfl rfl ?_)
      refine And.intro (vp_in_nI (by omega) (by decide)) ?_
      rw [cj, h71 j (by omega)]
      (repeat refine gp_gc [6, 53] od_Se_fallsFrom rfl rfl ?_)
      by_cases c : tk j = 1
      · refine gb_eq_t (by rw [c]; rfl) ?_
        (repeat refine gp_gc [6, 53] od_Se_fallsFrom rfl rfl ?_)
        exact nxt _ (by rw [if_neg (fun z => z.2 c), Int32.add_zero])
      · refine gb_eq_f (fun z => c ((nI_eq (b := 1) (by omega) (by decide)).mp z)) ?_
        (repeat refine gp_gc [6, 53] od_Se_fallsFrom rfl rfl ?_)
        refine And.intro (vp_in_nI (by omega) (by decide)) ?_
        rw [cj, h66 j (by omega)]
        (repeat refine gp_gc [6, 53] od_Se_fallsFrom rfl rfl ?_)
        refine sp_Pl_rootsOf (d := d) rfl hmj ?_
        rw [eR]
        (repeat refine gp_gc [6, 53] od_Se_fallsFrom rfl rfl ?_)
        refine And.intro (vp_in_nI (by omega) (by decide)) ?_
        rw [cp, h66 p hp]
        (repeat refine gp_gc [6, 53] od_Se_fallsFrom rfl rfl ?_)
        by_cases b : (gf_an (w 101) (ms j) (1 <<< (nI (ms j) &&& 31)) >>> (nI (ms p) &&& 31)) &&& 1 = 1
        · refine gb_ne_f b ?_
          (repeat refine gp_gc [6, 53] od_Se_fallsFrom rfl rfl ?_)
          exact nxt _ (by rw [if_pos ⟨b, c⟩]; rfl)
        · refine gb_ne_t b ?_
          (repeat refine gp_gc [6, 53] od_Se_fallsFrom rfl rfl ?_)
          exact nxt _ (by rw [if_neg (fun z => b z.1), Int32.add_zero])
  have e1 : nI p + Int32.ofInt 1 = nI (p + 1) := gp_inc rfl
  (repeat refine gp_gc [6, 53] od_Se_fallsFrom rfl rfl ?_)
  rw [e1]
  exact loop (n - (p + 1)) (p + 1) _ (by omega) h
set_option maxRecDepth 100000 in
theorem sp_Se_cheapestPacked {tk : Nat → Nat} (e8 : w 65 8 = nI n) (hn : n ≤ 10) (h71 : ∀ j, j < n → w 71 j = nI (tk j)) (h : K (some (.int (gz_pk tk n))) (gv w u q)) : gp_Cal l G (d + 0) m_Se_cheapestPacked [.ref 65] (gv w u q) K := by
  refine gp_enter od_Se_cheapestPacked rfl ?_
  have loop : ∀ (r j : Nat) (s : Int32), j + r = n → K (some (.int (gp_it (gf_pkS (fun j => nI (tk j))) j r s))) (gv w u q) → gp_Go l G (d + 0) m_Se_cheapestPacked K 4 [some (.ref 65), some (.int s), some (.int (nI j))] [] (gv w u q) 0 0 := by
    intro r
    induction r with
    | zero =>
      intro j s hj hh
      have ej : j = n := by omega
      refine gp_go od_Se_cheapestPacked rfl ?_
      (repeat refine gp_gc [4] od_Se_cheapestPacked rfl rfl ?_)
      refine gb_ge_t (by rw [e8, ej]; exact Int32.le_refl _) ?_
      (repeat refine gp_gc [4] od_Se_cheapestPacked rfl rfl ?_)
      exact hh
    | succ r ih =>
      intro j s hj h
      have cj : (nI j).toNatClampNeg = j := nI_clamp (by omega)
      have inc : nI j + Int32.ofInt 1 = nI (j + 1) := gp_inc rfl
      refine gp_go od_Se_cheapestPacked rfl ?_
      (repeat refine gp_gc [4] od_Se_cheapestPacked rfl rfl ?_)
      refine gb_ge_f (by rw [e8]; exact nI_ge (by omega) (by omega)) ?_
      (repeat refine gp_gc [4] od_Se_cheapestPacked rfl rfl ?_)
      refine And.intro (vp_in_nI (by omega) (by decide)) ?_
      rw [cj, h71 j (by omega)]
      (repeat refine gp_gc [4] od_Se_cheapestPacked rfl rfl ?_)
      rw [inc]
      exact ih (j + 1) _ (by omega) h
  (repeat refine gp_gc [4] od_Se_cheapestPacked rfl rfl ?_)
  exact loop n 0 0 (by omega) h
end

end
