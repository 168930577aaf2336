section
variable {l : Launch} {G : gp_G} {d : Nat} {w : Nat → Nat → Int32} {u : Int64 × (Nat → Int64)} {q : Nat → Nat} {K : Option Value → gp_H → Prop}
/-! ===== the class's search: walk, arrive, countUpTo, findCheapest ===== -/
section
variable {m n : Nat} {ms : Nat → Nat} {PL : List (gf_L × gf_L)} {S : Nat → Nat → Int32} {σ : Type} {rep : σ → (Nat → Nat → Int32) → Prop} {lim : σ → Int} {st : σ → List gz_S → σ}
set_option maxRecDepth 100000 in
theorem sp_Se_walk (H : gS_H w S m n ms PL) (hn : n ≤ 10) (hms : ∀ i, i < n → ms i < 16) (O : gW_ok rep lim st) (AR : gW_ar l G u q n S rep lim st) : ∀ (f i : Nat) (K : Option Value → gp_H → Prop) (tk : Nat → Nat) (s : Nat) (x : σ) (W : Nat → Nat → Int32), i + f = n → s ≤ 999 * i → gY S W → rep x W → (∀ j, j < i → W 70 j = nI (tk j) ∧ tk j < 4) → ((s + gcz_fl w m ms PL n i : Nat) : Int) ≤ lim x → (∀ W', gY S W' → rep (st x (gz_c (gcz_ok w m ms) (gcz_co w ms PL) f i tk s)) W' → (∀ j, j < i → W' 70 j = W 70 j) → K none (gv W' u q)) → gp_Cal l G (d + f + 1) m_Se_walk [.ref 65, .int (nI i), .int (nI s), .int (gz_T w ms tk i), .int (gz_R ms tk i)] (gv W u q) K := by
  intro f
  induction f with
  | zero =>
    intro i K tk s x W hi hs hY hr h70 hl h
    have ei : i = n := by omega
    subst ei
    have e8 : W 65 8 = nI i := hY.2.1.trans H.2.1
    refine gp_enter od_Se_walk rfl ?_
    (repeat refine gp_gc [33] od_Se_walk rfl rfl ?_)
    refine gb_lt_f (by rw [e8]; exact nI_nlt (Nat.le_refl _) (by omega)) ?_
    (repeat refine gp_gc [33] od_Se_walk rfl rfl ?_)
    refine AR (d + 0) _ x W tk s hY hr (by omega) (by omega) (fun j hj => (h70 j hj).1) (fun W' a b c => ?_)
    (repeat refine gp_gc [33] od_Se_walk rfl rfl ?_)
    exact h W' a b (fun j _ => by rw [c])
  | succ f ih =>
    intro i K tk s x W hi hs hY hr h70 hl h
    have hmi := hms i (by omega)
    have e8 : W 65 8 = nI n := hY.2.1.trans H.2.1
    have ci : (nI i).toNatClampNeg = i := nI_clamp (by omega)
    have cm : (nI (ms i)).toNatClampNeg = ms i := nI_clamp (by omega)
    have e66 : W 66 i = nI (ms i) := by rw [hY.1 66 (by decide) (by decide) (by decide)]; exact H.2.2.1 i (by omega)
    refine gp_enter od_Se_walk rfl ?_
    (repeat refine gp_gc [33] od_Se_walk rfl rfl ?_)
    refine gb_lt_t (by rw [e8]; exact nI_lt (by omega) (by omega)) ?_
    (repeat refine gp_gc [33] od_Se_walk rfl rfl ?_)
    refine And.intro (vp_in_nI (by omega) (by decide)) ?_
    rw [ci, e66]
    (repeat refine gp_gc [33] od_Se_walk rfl rfl ?_)
    refine And.intro (vp_in_nI hmi (by decide)) ⟨_, rfl, ?_⟩
    rw [cm]
    (repeat refine gp_gc [33] od_Se_walk rfl rfl ?_)
    exact gl_wL (d := d) H hn hms O hi hs (fun j hj => (h70 j hj).2) (fun K tk s x W a b c e g k => ih (i + 1) K tk s x W (by omega) a b c e g k) 4 0 x W (by omega) hY hr (fun j hj => (h70 j hj).1) h
end
section
variable {m n : Nat} {ms : Nat → Nat} {PL : List (gf_L × gf_L)} {S : Nat → Nat → Int32}
/-! counting -/
def gW_rc (b : Nat) (c : Nat) (W : Nat → Nat → Int32) : Prop := W 65 10 = nI c ∧ c ≤ 2001 ∧ W 65 9 = (if 2000 < c then -1 else nI b)
def gW_lc (b : Nat) (c : Nat) : Int := if 2000 < c then -1 else (b : Int)
theorem gW_okc {b : Nat} (hb : b ≤ 9999) : gW_ok (gW_rc b) (gW_lc b) (gz_ct b) := by
  refine ⟨fun c W h => ?_, fun c W k v h => h, fun c W h => gz_ct_0 h.2.1, fun c A B => gz_ct_A, fun c W L h h1 h2 => ?_⟩
  · rw [h.2.2]
    unfold gW_lc
    by_cases e : 2000 < c
    · rw [if_pos e, if_pos e]; rfl
    · rw [if_neg e, if_neg e]; exact nI_toInt (by omega)
  · refine gz_ct_no h.2.1 ?_
    by_cases e : 2000 < c
    · left
      have := h.2.1
      omega
    · right
      intro e' he
      have := h2 e' he
      unfold gW_lc at this
      rw [if_neg e] at this
      omega
set_option maxRecDepth 100000 in
theorem gW_arc {b : Nat} (hb : b ≤ 9999) (h11 : S 65 11 = 1) : gW_ar l G u q n S (gW_rc b) (gW_lc b) (gz_ct b) := by
  intro d K c W tk s hY hr hl hs h70 h
  have hc : c ≤ 2000 := by
    unfold gW_lc at hl
    by_cases e : 2000 < c
    · rw [if_pos e] at hl; omega
    · omega
  have hl2 : s ≤ b := by
    unfold gW_lc at hl
    rw [if_neg (by omega)] at hl
    omega
  have e1 : gz_ct b c [(s, tk)] = c + 1 := by
    simp only [gz_ct, gz_n, List.filter, decide_eq_true hl2, List.length_cons, List.length_nil]
    omega
  have e10 : W 65 10 + 1 = nI (c + 1) := by rw [hr.1]; exact nI_1 c
  have fin : ∀ x : Int32, x = (if 2000 < c + 1 then -1 else nI b) → K none (gv (gw (gw W 65 10 (W 65 10 + 1)) 65 9 x) u q) := by
    intro x ex
    refine h _ (gY_65 (gY_65 hY (by decide) (by decide)) (by decide) (by decide)) ?_ rfl
    rw [e1]
    exact ⟨e10, by omega, ex⟩
  refine gp_enter od_Se_arrive rfl ?_
  (repeat refine gp_gc [54] od_Se_arrive rfl rfl ?_)
  refine gb1_eq_f (by rw [hY.2.2, h11]; decide) ?_
  (repeat refine gp_gc [54] od_Se_arrive rfl rfl ?_)
  by_cases e : 2000 < c + 1
  · refine gb_le_f (show ¬ W 65 10 + 1 ≤ 2000 by rw [e10]; exact nI_ge (a := 2000) e (by omega)) ?_
    (repeat refine gp_gc [54] od_Se_arrive rfl rfl ?_)
    exact fin _ (by rw [if_pos e]; rfl)
  · refine gb_le_t (show W 65 10 + 1 ≤ 2000 by rw [e10]; exact nI_le (b := 2000) (by omega) (by decide)) ?_
    (repeat refine gp_gc [54] od_Se_arrive rfl rfl ?_)
    refine fin (W 65 9) ?_
    rw [hr.2.2, if_neg (by omega), if_neg e]
/-! the cheapest -/
def gW_rb (n : Nat) (x : Option gz_S) (W : Nat → Nat → Int32) : Prop := match x with
  | none => W 65 9 = 9990
  | some e => W 65 9 = nI e.1 - 1 ∧ W 65 12 = nI e.1 ∧ e.1 ≤ 9990 ∧ ∀ j, j < n → W 71 j = nI (e.2 j)
def gW_lb (x : Option gz_S) : Int := match x with
  | none => 9990
  | some e => (e.1 : Int) - 1
theorem gW_okb {n : Nat} : gW_ok (gW_rb n) gW_lb gz_bs := by
  refine ⟨fun x W h => ?_, fun x W k v h => ?_, fun c W h => rfl, fun c A B => gz_bs_A c A B, fun x W L h h1 h2 => ?_⟩
  · cases x with
    | none =>
      have h : W 65 9 = 9990 := h
      rw [h]
      rfl
    | some e =>
      rw [h.1]
      have := h.2.2.1
      show (nI e.1 - nI 1).toInt = (e.1 : Int) - 1
      rw [pk_sub_toInt (by omega) (by decide)]
      rfl
  · cases x with
    | none => exact h
    | some e => exact h
  · cases x with
    | none =>
      cases L with
      | nil => rfl
      | cons e L =>
        have a := h1 e List.mem_cons_self
        have b : (9990 : Int) < (e.1 : Int) := h2 e List.mem_cons_self
        omega
    | some b =>
      refine gz_bs_no (fun e he => ?_)
      have : (b.1 : Int) - 1 < (e.1 : Int) := h2 e he
      omega
set_option maxRecDepth 100000 in
theorem gW_arb (hn : n ≤ 10) (h8 : S 65 8 = nI n) (h11 : S 65 11 = 0) : gW_ar l G u q n S (gW_rb n) gW_lb gz_bs := by
  intro d K x W tk s hY hr hl hs h70 h
  have e1 : gz_bs x [(s, tk)] = some (s, tk) := by
    cases x with
    | none => rfl
    | some b =>
      have hl : (s : Int) ≤ (b.1 : Int) - 1 := hl
      show (if s < b.1 then some (s, tk) else some b) = some (s, tk)
      rw [if_pos (by omega)]
  rw [e1] at h
  have loop : ∀ (r j : Nat) (W1 : Nat → Nat → Int32), j + r = n → gY S W1 → W1 65 9 = nI s - 1 → W1 65 12 = nI s → W1 70 = W 70 → (∀ k, k < j → W1 71 k = nI (tk k)) → gp_Go l G d m_Se_arrive K 54 [some (.ref 65), some (.int (nI s)), some (.int (nI j))] [] (gv W1 u q) 0 0 := by
    intro r
    induction r with
    | zero =>
      intro j W1 hj hY1 h9 h12 h7 h71
      have ej : j = n := by omega
      subst ej
      refine gp_go od_Se_arrive rfl ?_
      (repeat refine gp_gc [54] od_Se_arrive rfl rfl ?_)
      refine gb_ge_t (by rw [hY1.2.1, h8]; exact Int32.le_refl _) ?_
      (repeat refine gp_gc [54] od_Se_arrive rfl rfl ?_)
      exact h W1 hY1 ⟨h9, h12, hs, h71⟩ h7
    | succ r ih =>
      intro j W1 hj hY1 h9 h12 h7 h71
      have cj : (nI j).toNatClampNeg = j := nI_clamp (by omega)
      have ij : vp_in (nI j) 10 := vp_in_nI (by omega) (by decide)
      have inc : nI j + Int32.ofInt 1 = nI (j + 1) := gp_inc rfl
      refine gp_go od_Se_arrive rfl ?_
      (repeat refine gp_gc [54] od_Se_arrive rfl rfl ?_)
      refine gb_ge_f (by rw [hY1.2.1, h8]; exact nI_ge (by omega) (by omega)) ?_
      (repeat refine gp_gc [54] od_Se_arrive rfl rfl ?_)
      refine And.intro ij ?_
      (repeat refine gp_gc [54] od_Se_arrive rfl rfl ?_)
      refine And.intro ij ?_
      rw [cj]
      (repeat refine gp_gc [54] od_Se_arrive rfl rfl ?_)
      rw [inc]
      refine ih (j + 1) (gw W1 71 j (W1 70 j)) (by omega) (gY_w hY1 (Or.inr rfl)) h9 h12 h7 (fun k hk => ?_)
      rw [gw_at]
      by_cases c : k = j
      · rw [if_pos c, c, h7]
        exact h70 j (by omega)
      · rw [if_neg c]
        exact h71 k (by omega)
  refine gp_enter od_Se_arrive rfl ?_
  (repeat refine gp_gc [54] od_Se_arrive rfl rfl ?_)
  refine gb1_eq_t (by rw [hY.2.2, h11]) ?_
  (repeat refine gp_gc [54] od_Se_arrive rfl rfl ?_)
  exact loop n 0 (gw (gw W 65 12 (nI s)) 65 9 (nI s - 1)) (by omega) (gY_65 (gY_65 hY (by decide) (by decide)) (by decide) (by decide)) rfl rfl rfl (fun k hk => absurd hk (by omega))
theorem gS_65 {w S : Nat → Nat → Int32} {k : Nat} {x : Int32} (H : gS_H w S m n ms PL) (hk : k ≠ 8) : gS_H w (gw S 65 k x) m n ms PL := by
  obtain ⟨a, b, c, e, f, g⟩ := H
  refine ⟨gX_w a (by decide), ?_, c, e, f, g⟩
  rw [gw_at, if_neg (fun z => hk z.symm)]
  exact b
theorem gX_Y {w S W : Nat → Nat → Int32} (h : gX w S) (hY : gY S W) : gX w W := fun b h1 h2 h3 h4 => (hY.1 b (by omega) (by omega) (by omega)).trans (h b h1 h2 h3 h4)
def gcz_all (w : Nat → Nat → Int32) (m : Nat) (ms : Nat → Nat) (PL : List (gf_L × gf_L)) (n : Nat) : List gz_S := gz_c (gcz_ok w m ms) (gcz_co w ms PL) n 0 (fun _ => 0) 0
set_option maxRecDepth 100000 in
theorem sp_Se_countUpTo {p : Int32} {b : Nat} (H : gS_H w S m n ms PL) (hn : n ≤ 10) (hms : ∀ i, i < n → ms i < 16) (ep : p = nI b) (hb : b ≤ 9999) (h : ∀ W, gX w W → K (some (.int (nI (gz_ct b 0 (gcz_all w m ms PL n))))) (gv W u q)) : gp_Cal l G (d + n + 2) m_Se_countUpTo [.ref 65, .int p] (gv S u q) K := by
  subst ep
  have H2 : gS_H w (gw (gw (gw S 65 11 1) 65 10 0) 65 9 (nI b)) m n ms PL := gS_65 (gS_65 (gS_65 H (by decide)) (by decide)) (by decide)
  have e69 : S 69 0 = nI (gcz_fl w m ms PL n 0) := H.2.2.2.2.2 0 (by omega)
  have hfl := gcz_fl_b w m ms PL n 0
  refine gp_enter od_Se_countUpTo rfl ?_
  (repeat refine gp_gc [] od_Se_countUpTo rfl rfl ?_)
  refine And.intro (Or.inr rfl) ?_
  (repeat refine gp_gc [] od_Se_countUpTo rfl rfl ?_)
  refine And.intro (pk_in 0 11 (by decide)) ?_
  (repeat refine gp_gc [] od_Se_countUpTo rfl rfl ?_)
  have q0 : S 69 (Int32.ofInt 0).toNatClampNeg = nI (gcz_fl w m ms PL n 0) := e69
  rw [q0]
  by_cases c : b < gcz_fl w m ms PL n 0
  · refine gb_gt_t (nI_lt c (by omega)) ?_
    (repeat refine gp_gc [] od_Se_countUpTo rfl rfl ?_)
    have h := h (gw (gw (gw S 65 11 1) 65 10 0) 65 9 (nI b)) H2.1
    have e0 : gz_ct b 0 (gcz_all w m ms PL n) = 0 := by
      refine gz_ct_no (by omega) (Or.inr (fun e he => ?_))
      have h0 : gcz_fl w m ms PL n n = 0 := by unfold gcz_fl; rw [Nat.sub_self]; rfl
      have := gz_ge (fl := gcz_fl w m ms PL n) n h0 (fun i t tk a b c => gcz_hf i t tk a b c) n 0 _ _ e (by omega) he
      omega
    rw [e0] at h
    exact h
  · refine gb_gt_f (nI_nlt (by omega) (by omega)) ?_
    (repeat refine gp_gc [] od_Se_countUpTo rfl rfl ?_)
    refine sp_Se_walk (d := d) (σ := Nat) H2 hn hms (gW_okc hb) (gW_arc hb rfl) n 0 _ (fun _ => 0) 0 0 (gw (gw (gw S 65 11 1) 65 10 0) 65 9 (nI b)) (by omega) (by omega) (gY_r _) ⟨rfl, by omega, rfl⟩ (fun j hj => absurd hj (by omega)) ?_ (fun W' hY hr _ => ?_)
    · show ((0 + gcz_fl w m ms PL n 0 : Nat) : Int) ≤ (if 2000 < 0 then -1 else (b : Int))
      rw [if_neg (by decide)]
      omega
    · (repeat refine gp_gc [] od_Se_countUpTo rfl rfl ?_)
      have h := h W' (gX_Y H2.1 hY)
      have e : W' 65 10 = nI (gz_ct b 0 (gcz_all w m ms PL n)) := hr.1
      rw [← e] at h
      exact h
set_option maxRecDepth 100000 in
theorem sp_Se_findCheapest (H : gS_H w S m n ms PL) (hn : n ≤ 10) (hms : ∀ i, i < n → ms i < 16) (h : ∀ W, gS_H w W m n ms PL → gW_rb n (gz_bs none (gcz_all w m ms PL n)) W → K none (gv W u q)) : gp_Cal l G (d + n + 2) m_Se_findCheapest [.ref 65] (gv S u q) K := by
  have H2 : gS_H w (gw (gw S 65 11 0) 65 9 9990) m n ms PL := gS_65 (gS_65 H (by decide)) (by decide)
  have hfl := gcz_fl_b w m ms PL n 0
  refine gp_enter od_Se_findCheapest rfl ?_
  (repeat refine gp_gc [] od_Se_findCheapest rfl rfl ?_)
  refine And.intro (Or.inl rfl) ?_
  (repeat refine gp_gc [] od_Se_findCheapest rfl rfl ?_)
  refine sp_Se_walk (d := d) (σ := Option gz_S) H2 hn hms gW_okb (gW_arb hn H2.2.1 rfl) n 0 _ (fun _ => 0) 0 none (gw (gw S 65 11 0) 65 9 9990) (by omega) (by omega) (gY_r _) rfl (fun j hj => absurd hj (by omega)) ?_ (fun W' hY hr _ => ?_)
  · show ((0 + gcz_fl w m ms PL n 0 : Nat) : Int) ≤ 9990
    omega
  · (repeat refine gp_gc [] od_Se_findCheapest rfl rfl ?_)
    obtain ⟨a, b, c, e, f, g⟩ := H2
    refine h W' ⟨gX_Y a hY, hY.2.1.trans b, ?_, ?_, ?_, ?_⟩ hr
    · rw [hY.1 66 (by decide) (by decide) (by decide)]; exact c
    · rw [hY.1 67 (by decide) (by decide) (by decide)]; exact e
    · rw [hY.1 68 (by decide) (by decide) (by decide)]; exact f
    · rw [hY.1 69 (by decide) (by decide) (by decide)]; exact g
end

end
