section
variable {l : Launch} {G : gp_G} {d : Nat} {w : Nat → Nat → Int32} {u : Int64 × (Nat → Int64)} {q : Nat → Nat} {K : Option Value → gp_H → Prop}
/-! ===== the class's search: what a place may be taken for, what it costs ===== -/
theorem gp_ma_n {m : Nat} (hm : m < 7) : ∀ j, j ≤ 4 → gp_ma m + j < 52 ∨ (60 ≤ gp_ma m + j ∧ gp_ma m + j < 65) :=
  gp_ma_7 (P := fun a => ∀ j, j ≤ 4 → a + j < 52 ∨ (60 ≤ a + j ∧ a + j < 65)) (by decide) (by decide) (by decide) (by decide) (by decide) (by decide) (by decide) hm
def gc_tv (a b c : Bool) : Int32 := 1 ||| (if a then 2 else 0) ||| (if b then 4 else 0) ||| (if c then 8 else 0)
/-- a call at an address that isn't a number -/
theorem gs_inv {l : Launch} {G : gp_G} {d : Nat} {M : gp_M} {K : Option Value → gp_H → Prop} {k : gp_K} {idx pc : Nat} {ls : List (Option Value)} {st : List Value} {V : gp_H} {cs ss a qk ci : Nat} {fs as rest : List Value} {M' : gp_M} (hl : gp_lk (gp_ml (gp_o M)) idx = some (qk, M')) (hq : (Nat.beq qk 0 || Nat.beq qk 3) = true) (hpop : gp_pop (gp_np M') [] st = some (as, .ref a :: rest)) (hV : gp_nth V a = some (.inr (ci, fs))) (hc : ci = gp_o M') (h : gp_cl1 l G d M M' (.ref a :: as) rest V cs ss fun r V' cs' ss' => k (pc + 3) ls (r.toList ++ rest) V' cs' ss') : gp_step l G d M K k (.invokevirtual idx) 3 pc ls st V cs ss := by
  subst hc
  simp only [gp_step, gp_ln, gp_row, hl, hpop, gp_bt, hq, gp_rc, gp_ob, hV, Nat.beq_refl]
  exact h
theorem gv_a53 {w : Nat → Nat → Int32} {u : Int64 × (Nat → Int64)} {q : Nat → Nat} {j : Nat} {x : Int32} : (gv w u q).set 53 (.inl (0, 13, .inl (upd (w 53) j x))) = gv (gw w 53 j x) u q := rfl
section
variable {m i : Nat}
set_option maxRecDepth 100000 in
theorem sp_Mk_takenFor {t : Int32} (hi : i < 16) (h : K (some (.int (if t = 1 then w (5 + i) 1 else if t = 2 then w (5 + i) 7 else w (5 + i) 8))) (gv w u q)) : gp_Cal l G (d + 0) m_Mk_takenFor [.ref (5 + i), .int t] (gv w u q) K := by
  refine gp_enter od_Mk_takenFor rfl ?_
  (repeat refine gp_gc [] od_Mk_takenFor rfl rfl ?_)
  by_cases b1 : t = 1
  · rw [if_pos b1] at h
    refine gb_ne_f b1 ?_
    (repeat refine gp_gc [] od_Mk_takenFor rfl rfl ?_)
    refine gs_get (gv_mark hi) rfl rfl ?_
    (repeat refine gp_gc [] od_Mk_takenFor rfl rfl ?_)
    exact h
  rw [if_neg b1] at h
  refine gb_ne_t b1 ?_
  (repeat refine gp_gc [] od_Mk_takenFor rfl rfl ?_)
  by_cases b2 : t = 2
  · rw [if_pos b2] at h
    refine gb_ne_f b2 ?_
    (repeat refine gp_gc [] od_Mk_takenFor rfl rfl ?_)
    refine gs_get (gv_mark hi) rfl rfl ?_
    (repeat refine gp_gc [] od_Mk_takenFor rfl rfl ?_)
    exact h
  · rw [if_neg b2] at h
    refine gb_ne_t b2 ?_
    (repeat refine gp_gc [] od_Mk_takenFor rfl rfl ?_)
    refine gs_get (gv_mark hi) rfl rfl ?_
    (repeat refine gp_gc [] od_Mk_takenFor rfl rfl ?_)
    exact h
abbrev gc_see (w : Nat → Nat → Int32) (m i : Nat) : Prop := w (5 + i) 4 &&& (w (gp_ma m) 4 ^^^ -1) = 0 ∧ 0 < gc_left w i (w 1 4)
set_option maxRecDepth 100000 in
theorem sp_Se_takingsOf {ah : Int32} (hm : m < 7) (hi : i < 16) (ik : vp_in (w (5 + i) 0) 7) (h : ∀ a b c : Bool, (a = true ↔ gc_see w m i ∧ w (5 + i) 6 &&& (w (gp_ma m) 5 ^^^ -1) = 0 ∧ w (5 + i) 5 &&& (ah ^^^ -1) = 0) → (b = true ↔ gc_see w m i ∧ ¬ w (5 + i) 7 = -1) → (c = true ↔ gc_see w m i ∧ ¬ w (5 + i) 8 = -1) → K (some (.int (gc_tv a b c))) (gv w u q)) : gp_Cal l G (d + 2) m_Se_takingsOf [.ref 65, .ref (5 + i), .ref (gp_ma m), .int ah] (gv w u q) K := by
  refine gp_enter od_Se_takingsOf rfl ?_
  (repeat refine gp_gc [46] od_Se_takingsOf rfl rfl ?_)
  refine sp_Pl_canSee (d := d) hm hi ik (fun s1 s2 => ?_) (fun s => ?_)
  rotate_left
  · (repeat refine gp_gc [46] od_Se_takingsOf rfl rfl ?_)
    refine gb1_ne_f rfl ?_
    (repeat refine gp_gc [46] od_Se_takingsOf rfl rfl ?_)
    refine h false false false ?_ ?_ ?_
    · exact ⟨fun z => absurd z (by decide), fun z => absurd z.1 s⟩
    · exact ⟨fun z => absurd z (by decide), fun z => absurd z.1 s⟩
    · exact ⟨fun z => absurd z (by decide), fun z => absurd z.1 s⟩
  have see : gc_see w m i := ⟨s1, s2⟩
  (repeat refine gp_gc [46] od_Se_takingsOf rfl rfl ?_)
  refine gb1_ne_t (by decide) ?_
  have fin : ∀ a : Bool, (a = true ↔ gc_see w m i ∧ w (5 + i) 6 &&& (w (gp_ma m) 5 ^^^ -1) = 0 ∧ w (5 + i) 5 &&& (ah ^^^ -1) = 0) → gp_Go l G (d + 2) m_Se_takingsOf K 46 [some (.ref 65), some (.ref (5 + i)), some (.ref (gp_ma m)), some (.int ah), some (.int (if a then 1 else 0))] [] (gv w u q) 0 0 := by
    intro a ha
    have h := h a (decide (¬ w (5 + i) 7 = -1)) (decide (¬ w (5 + i) 8 = -1)) ha ⟨fun z => ⟨see, of_decide_eq_true z⟩, fun z => decide_eq_true z.2⟩ ⟨fun z => ⟨see, of_decide_eq_true z⟩, fun z => decide_eq_true z.2⟩
    have two : ∀ x : Int32, x = 1 ||| (if a then 2 else 0) → gp_Go l G (d + 2) m_Se_takingsOf K 57 [some (.ref 65), some (.ref (5 + i)), some (.ref (gp_ma m)), some (.int ah), some (.int (if a then 1 else 0))] [.int (if a then 2 else 0), .int 1] (gv w u q) 0 0 := by
      intro x ex
      refine gp_go od_Se_takingsOf rfl ?_
      (repeat refine gp_gc [46] od_Se_takingsOf rfl rfl ?_)
      refine gs_get (gv_mark hi) rfl rfl ?_
      (repeat refine gp_gc [46] od_Se_takingsOf rfl rfl ?_)
      by_cases b1 : w (5 + i) 7 = -1
      · have e1 : decide (¬ w (5 + i) 7 = -1) = false := decide_eq_false (fun z => z b1)
        rw [e1] at h
        refine gb_eq_t b1 ?_
        (repeat refine gp_gc [46] od_Se_takingsOf rfl rfl ?_)
        refine gs_get (gv_mark hi) rfl rfl ?_
        (repeat refine gp_gc [46] od_Se_takingsOf rfl rfl ?_)
        by_cases b2 : w (5 + i) 8 = -1
        · have e2 : decide (¬ w (5 + i) 8 = -1) = false := decide_eq_false (fun z => z b2)
          rw [e2] at h
          refine gb_eq_t b2 ?_
          (repeat refine gp_gc [46] od_Se_takingsOf rfl rfl ?_)
          exact h
        · have e2 : decide (¬ w (5 + i) 8 = -1) = true := decide_eq_true b2
          rw [e2] at h
          refine gb_eq_f b2 ?_
          (repeat refine gp_gc [46] od_Se_takingsOf rfl rfl ?_)
          exact h
      · have e1 : decide (¬ w (5 + i) 7 = -1) = true := decide_eq_true b1
        rw [e1] at h
        refine gb_eq_f b1 ?_
        (repeat refine gp_gc [46] od_Se_takingsOf rfl rfl ?_)
        refine gs_get (gv_mark hi) rfl rfl ?_
        (repeat refine gp_gc [46] od_Se_takingsOf rfl rfl ?_)
        by_cases b2 : w (5 + i) 8 = -1
        · have e2 : decide (¬ w (5 + i) 8 = -1) = false := decide_eq_false (fun z => z b2)
          rw [e2] at h
          refine gb_eq_t b2 ?_
          (repeat refine gp_gc [46] od_Se_takingsOf rfl rfl ?_)
          exact h
        · have e2 : decide (¬ w (5 + i) 8 = -1) = true := decide_eq_true b2
          rw [e2] at h
          refine gb_eq_f b2 ?_
          (repeat refine gp_gc [46] od_Se_takingsOf rfl rfl ?_)
          exact h
    have two := two _ rfl
    refine gp_go od_Se_takingsOf rfl ?_
    (repeat refine gp_gc [46, 57] od_Se_takingsOf rfl rfl ?_)
    cases a with
    | true =>
      refine gb1_eq_f (by decide) ?_
      (repeat refine gp_gc [46, 57] od_Se_takingsOf rfl rfl ?_)
      exact two
    | false =>
      refine gb1_eq_t rfl ?_
      (repeat refine gp_gc [46, 57] od_Se_takingsOf rfl rfl ?_)
      exact two
  (repeat refine gp_gc [46] od_Se_takingsOf rfl rfl ?_)
  refine gs_get (gv_mark hi) rfl rfl ?_
  (repeat refine gp_gc [46] od_Se_takingsOf rfl rfl ?_)
  refine gs_get (gv_mind hm) rfl rfl ?_
  (repeat refine gp_gc [46] od_Se_takingsOf rfl rfl ?_)
  by_cases b1 : w (5 + i) 6 &&& (w (gp_ma m) 5 ^^^ -1) = 0
  rotate_left
  · refine gb1_ne_t b1 ?_
    (repeat refine gp_gc [46] od_Se_takingsOf rfl rfl ?_)
    exact fin false ⟨fun z => absurd z (by decide), fun z => absurd z.2.1 b1⟩
  refine gb1_ne_f b1 ?_
  (repeat refine gp_gc [46] od_Se_takingsOf rfl rfl ?_)
  refine gs_get (gv_mark hi) rfl rfl ?_
  (repeat refine gp_gc [46] od_Se_takingsOf rfl rfl ?_)
  by_cases b2 : w (5 + i) 5 &&& (ah ^^^ -1) = 0
  rotate_left
  · refine gb1_ne_t b2 ?_
    (repeat refine gp_gc [46] od_Se_takingsOf rfl rfl ?_)
    exact fin false ⟨fun z => absurd z (by decide), fun z => absurd z.2.2 b2⟩
  refine gb1_ne_f b2 ?_
  (repeat refine gp_gc [46] od_Se_takingsOf rfl rfl ?_)
  exact fin true ⟨fun _ => ⟨see, b1, b2⟩, fun _ => rfl⟩
theorem gc_pos (x : Int32) : (if 0 < x then x else 0) = gf_pos x := by
  unfold gf_pos
  by_cases b : 0 < x
  · rw [if_pos b, if_neg (fun z => by rw [Int32.lt_iff_toInt_lt] at z b; omega)]
  · rw [if_neg b]
    by_cases c : x < 0
    · rw [if_pos c]
    · rw [if_neg c]
      apply Int32.toInt_inj.mp
      rw [Int32.lt_iff_toInt_lt] at b c
      have e0 : (0 : Int32).toInt = 0 := by decide
      omega
/-- what priceAll changes -/
def gV (w W : Nat → Nat → Int32) : Prop := ∀ b, b ≠ 52 → b ≠ 53 → b ≠ 54 → b ≠ 68 → W b = w b
theorem gV_r (w : Nat → Nat → Int32) : gV w w := fun _ _ _ _ _ => rfl
theorem gV_t {w W X : Nat → Nat → Int32} (h1 : gV w W) (h2 : gV W X) : gV w X := fun b a c e f => (h2 b a c e f).trans (h1 b a c e f)
theorem gV_w {w W : Nat → Nat → Int32} {a k : Nat} {x : Int32} (h : gV w W) (ha : a = 53 ∨ a = 68) : gV w (gw W a k x) := fun b h1 h2 h3 h4 => by
  rw [gw_ne (by rcases ha with rfl | rfl <;> assumption)]
  exact h b h1 h2 h3 h4
theorem gV_U {w W : Nat → Nat → Int32} (h : gU w W) : gV w W := fun b h1 _ h3 _ => h b h1 h3
theorem gV_ma {w W : Nat → Nat → Int32} (h : gV w W) {m j : Nat} (hm : m < 7) (hj : j ≤ 4) : W (gp_ma m + j) = w (gp_ma m + j) := by
  have b := gp_ma_n hm j hj
  exact h _ (by omega) (by omega) (by omega) (by omega)
def gc_base (w W : Nat → Nat → Int32) (mi pn : Nat) : Prop := W 53 0 = w (5 + mi) 0 ∧ W 53 1 = w (5 + mi) 2 ∧ W 53 2 = gf_pos (gc_left w mi (w 1 4)) ∧ W 53 3 = (if gc_wear w mi = 1 then 1 else 0) ∧ W 53 5 = nI pn ∧ ∀ j, 8 ≤ j → j < 13 → W 53 j = 0
def gc_Fm (w : Nat → Nat → Int32) (mi pn t tw : Nat) : Nat → Int32 := gf_F (w (5 + mi) 0) (w (5 + mi) 2) (gf_pos (gc_left w mi (w 1 4))) (if gc_wear w mi = 1 then 1 else 0) (nI pn) t tw
theorem gc_base_F {w W : Nat → Nat → Int32} {mi pn t tw : Nat} (h : gc_base w W mi pn) (h4 : W 53 4 = if 1 < t then 1 else 0) (h6 : W 53 6 = if t = 0 then 0 else nI tw) (h7 : W 53 7 = if t = 0 then 1 else 0) : ∀ j, j < 14 → gc_F W j = gc_Fm w mi pn t tw j := by
  obtain ⟨a0, a1, a2, a3, a5, a8⟩ := h
  intro j hj
  rcases (show j = 0 ∨ j = 1 ∨ j = 2 ∨ j = 3 ∨ j = 4 ∨ j = 5 ∨ j = 6 ∨ j = 7 ∨ j = 8 ∨ j = 9 ∨ j = 10 ∨ j = 11 ∨ j = 12 ∨ j = 13 by omega) with rfl | rfl | rfl | rfl | rfl | rfl | rfl | rfl | rfl | rfl | rfl | rfl | rfl | rfl
  · rfl
  · exact a0
  · exact a1
  · exact a2
  · exact a3
  · exact h4
  · exact a5
  · exact h6
  · exact h7
  · exact a8 8 (by decide) (by decide)
  · exact a8 9 (by decide) (by decide)
  · exact a8 10 (by decide) (by decide)
  · exact a8 11 (by decide) (by decide)
  · exact a8 12 (by decide) (by decide)
theorem gV_mk {w W : Nat → Nat → Int32} (h : gV w W) {i : Nat} (hi : i < 16) : W (5 + i) = w (5 + i) := h _ (by omega) (by omega) (by omega) (by omega)
theorem gc_left_eq {w W : Nat → Nat → Int32} {i : Nat} (h1 : W (5 + i) = w (5 + i)) (h3 : W 3 = w 3) (y : Int32) : gc_left W i y = gc_left w i y := by
  unfold gc_left
  rw [h1, h3]
theorem gc_left_V {w W : Nat → Nat → Int32} (h : gV w W) {i : Nat} (hi : i < 16) : gc_left W i (W 1 4) = gc_left w i (w 1 4) := by
  rw [h 1 (by decide) (by decide) (by decide) (by decide)]
  exact gc_left_eq (gV_mk h hi) (h 3 (by decide) (by decide) (by decide) (by decide)) _
theorem gc_wear_V {w W : Nat → Nat → Int32} (h : gV w W) {i : Nat} (hi : i < 16) : gc_wear W i = gc_wear w i := by
  unfold gc_wear
  rw [gc_left_V h hi, gV_mk h hi]
set_option maxRecDepth 100000 in
theorem sp_Se_priceAll {p : Int32} {pn mi : Nat} {PL : List (gf_L × gf_L)} (hm : m < 7) (ep : p = nI pn) (hpn : pn < 10) (e66 : w 66 pn = nI mi) (hmi : mi < 16) (ik : vp_in (w (5 + mi) 0) 7) (en : w (gp_ma m) 8 = nI PL.length) (hn : PL.length ≤ 16) (hp : gc_prs w m 0 PL) (h : ∀ W, gV w W → (∀ x, x < 6 * pn → W 68 x = w 68 x) → (∀ i, i < 6 → W 68 (6 * pn + i) = gf_price (gc_Fm w mi pn (i / 2) (i % 2)) PL) → K none (gv W u q)) : gp_Cal l G (d + 4) m_Se_priceAll [.ref 65, .int p, .ref (gp_ma m)] (gv w u q) K := by
  refine gp_enter od_Se_priceAll rfl ?_
  have cp : p.toNatClampNeg = pn := by rw [ep]; exact nI_clamp (by omega)
  have cm : (w 66 pn).toNatClampNeg = mi := by rw [e66]; exact nI_clamp (by omega)
  have e6 : p * 6 = nI (6 * pn) := by rw [ep]; show nI pn * nI 6 = _; rw [pk_mul]; congr 1; omega
  have loop : ∀ (r i : Nat) (W : Nat → Nat → Int32), i + r = 6 → gV w W → gc_base w W mi pn → (∀ x, x < 6 * pn → W 68 x = w 68 x) → (∀ k, k < i → W 68 (6 * pn + k) = gf_price (gc_Fm w mi pn (k / 2) (k % 2)) PL) → gp_Go l G (d + 4) m_Se_priceAll K 114 [some (.ref 65), some (.int p), some (.ref (gp_ma m)), some (.ref (5 + mi)), some (.int (nI (6 * pn))), some (.int (nI i))] [] (gv W u q) 0 0 := by
    intro r
    induction r with
    | zero =>
      intro i W hi hV hB h1 h2
      have ei : i = 6 := by omega
      subst ei
      refine gp_go od_Se_priceAll rfl ?_
      (repeat refine gp_gc [94, 114, 186] od_Se_priceAll rfl rfl ?_)
      refine gb_ge_t (by decide) ?_
      (repeat refine gp_gc [94, 114, 186] od_Se_priceAll rfl rfl ?_)
      exact h W hV h1 h2
    | succ r ih =>
      intro i W hi hV hB h1 h2
      have inc : nI i + Int32.ofInt 1 = nI (i + 1) := gp_inc rfl
      have eX : nI (6 * pn) + nI i = nI (6 * pn + i) := nI_add _ _
      have cX : (nI (6 * pn) + nI i).toNatClampNeg = 6 * pn + i := by rw [eX]; exact nI_clamp (by omega)
      have fin : ∀ W' : Nat → Nat → Int32, gV w W' → gc_base w W' mi pn → W' 53 4 = (if 1 < i / 2 then 1 else 0) → W' 53 6 = (if i / 2 = 0 then 0 else nI (i % 2)) → W' 53 7 = (if i / 2 = 0 then 1 else 0) → W' 68 = W 68 → gp_Go l G (d + 4) m_Se_priceAll K 186 [some (.ref 65), some (.int p), some (.ref (gp_ma m)), some (.ref (5 + mi)), some (.int (nI (6 * pn))), some (.int (nI i))] [] (gv W' u q) 0 0 := by
        intro W' hV' hB' b4 b6 b7 b68
        have eF := gf_price_congr (gc_base_F hB' b4 b6 b7) PL
        refine gp_go od_Se_priceAll rfl ?_
        (repeat refine gp_gc [94, 114, 186] od_Se_priceAll rfl rfl ?_)
        refine gs_inv rfl rfl rfl (gv_mind hm) rfl ?_
        refine sp_Mi_priceBy (d := d) (w := W') (PL := PL) hm (by rw [show W' (gp_ma m) = w (gp_ma m) from gV_ma (j := 0) hV' hm (by decide)]; exact en) hn (gc_prs_eq (gV_ma hV' hm (by decide)) (gV_ma hV' hm (by decide)) (gV_ma hV' hm (by decide)) (gV_ma hV' hm (by decide)) _ _ hp) (fun W2 hU => ?_)
        rw [eF]
        (repeat refine gp_gc [94, 114, 186] od_Se_priceAll rfl rfl ?_)
        refine And.intro (show vp_in (nI (6 * pn) + nI i) 60 by rw [eX]; exact vp_in_nI (by omega) (by decide)) ?_
        (repeat refine gp_gc [94, 114, 186] od_Se_priceAll rfl rfl ?_)
        rw [inc, cX]
        have e53 : W2 53 = W' 53 := hU 53 (by decide) (by decide)
        have e68 : W2 68 = W 68 := (hU 68 (by decide) (by decide)).trans b68
        refine ih (i + 1) (gw W2 68 (6 * pn + i) _) (by omega) (gV_w (gV_t hV' (gV_U hU)) (Or.inr rfl)) ?_ ?_ ?_
        · unfold gc_base
          rw [gw_ne (by decide), e53]
          exact hB'
        · intro x hx
          rw [gw_at, if_neg (by omega), e68]
          exact h1 x hx
        · intro k hk
          rw [gw_at]
          by_cases c : k = i
          · rw [if_pos (by omega), c]
          · rw [if_neg (by omega), e68]
            exact h2 k (by omega)
      have base3 : ∀ a b c : Int32, gc_base w (gw (gw (gw W 53 7 a) 53 4 b) 53 6 c) mi pn := by
        intro a b c
        obtain ⟨a0, a1, a2, a3, a5, a8⟩ := hB
        refine ⟨a0, a1, a2, a3, a5, fun j h8 h13 => ?_⟩
        rw [gw_at, if_neg (by omega), gw_at, if_neg (by omega), gw_at, if_neg (by omega)]
        exact a8 j h8 h13
      have v3 : ∀ a b c : Int32, gV w (gw (gw (gw W 53 7 a) 53 4 b) 53 6 c) := fun a b c => gV_w (gV_w (gV_w hV (Or.inl rfl)) (Or.inl rfl)) (Or.inl rfl)
      refine gp_go od_Se_priceAll rfl ?_
      (repeat refine gp_gc [94, 114, 186] od_Se_priceAll rfl rfl ?_)
      refine gb_ge_f (nI_ge (b := 6) (by omega) (by decide)) ?_
      (repeat refine gp_gc [94, 114, 186] od_Se_priceAll rfl rfl ?_)
      by_cases c1 : i < 2
      · refine gb_ge_f (nI_ge (b := 2) c1 (by decide)) ?_
        (repeat refine gp_gc [94, 114, 186] od_Se_priceAll rfl rfl ?_)
        refine And.intro (pk_in 7 13 (by decide)) ?_
        (repeat refine gp_gc [94, 114, 186] od_Se_priceAll rfl rfl ?_)
        refine gb_lt_t (nI_lt (b := 4) (by omega) (by decide)) ?_
        (repeat refine gp_gc [94, 114, 186] od_Se_priceAll rfl rfl ?_)
        refine And.intro (pk_in 4 13 (by decide)) ?_
        (repeat refine gp_gc [94, 114, 186] od_Se_priceAll rfl rfl ?_)
        refine gb_lt_t (nI_lt (b := 2) (by omega) (by decide)) ?_
        (repeat refine gp_gc [94, 114, 186] od_Se_priceAll rfl rfl ?_)
        refine And.intro (pk_in 6 13 (by decide)) ?_
        (repeat refine gp_gc [94, 114, 186] od_Se_priceAll rfl rfl ?_)
        refine fin (gw (gw (gw W 53 7 1) 53 4 0) 53 6 0) (v3 _ _ _) (base3 _ _ _) ?_ ?_ ?_ rfl
        · rw [if_neg (by omega)]; rfl
        · rw [if_pos (by omega)]; rfl
        · rw [if_pos (by omega)]; rfl
      refine gb_ge_t (nI_le (a := 2) (by omega) (by omega)) ?_
      (repeat refine gp_gc [94, 114, 186] od_Se_priceAll rfl rfl ?_)
      refine And.intro (pk_in 7 13 (by decide)) ?_
      (repeat refine gp_gc [94, 114, 186] od_Se_priceAll rfl rfl ?_)
      have e1 : nI i &&& 1 = nI (i % 2) := pk_andN (by omega) 1 rfl
      by_cases c2 : i < 4
      · refine gb_lt_t (nI_lt (b := 4) (by omega) (by decide)) ?_
        (repeat refine gp_gc [94, 114, 186] od_Se_priceAll rfl rfl ?_)
        refine And.intro (pk_in 4 13 (by decide)) ?_
        (repeat refine gp_gc [94, 114, 186] od_Se_priceAll rfl rfl ?_)
        refine gb_lt_f (nI_nlt (b := 2) (by omega) (by omega)) ?_
        (repeat refine gp_gc [94, 114, 186] od_Se_priceAll rfl rfl ?_)
        refine And.intro (pk_in 6 13 (by decide)) ?_
        (repeat refine gp_gc [94, 114, 186] od_Se_priceAll rfl rfl ?_)
        refine fin (gw (gw (gw W 53 7 0) 53 4 0) 53 6 (nI i &&& 1)) (v3 _ _ _) (base3 _ _ _) ?_ ?_ ?_ rfl
        · rw [if_neg (by omega)]; rfl
        · rw [if_neg (by omega), ← e1]; rfl
        · rw [if_neg (by omega)]; rfl
      · refine gb_lt_f (nI_nlt (b := 4) (by omega) (by omega)) ?_
        (repeat refine gp_gc [94, 114, 186] od_Se_priceAll rfl rfl ?_)
        refine And.intro (pk_in 4 13 (by decide)) ?_
        (repeat refine gp_gc [94, 114, 186] od_Se_priceAll rfl rfl ?_)
        refine gb_lt_f (nI_nlt (b := 2) (by omega) (by omega)) ?_
        (repeat refine gp_gc [94, 114, 186] od_Se_priceAll rfl rfl ?_)
        refine And.intro (pk_in 6 13 (by decide)) ?_
        (repeat refine gp_gc [94, 114, 186] od_Se_priceAll rfl rfl ?_)
        refine fin (gw (gw (gw W 53 7 0) 53 4 1) 53 6 (nI i &&& 1)) (v3 _ _ _) (base3 _ _ _) ?_ ?_ ?_ rfl
        · rw [if_pos (by omega)]; rfl
        · rw [if_neg (by omega), ← e1]; rfl
        · rw [if_neg (by omega)]; rfl
  (repeat refine gp_gc [94, 114, 186] od_Se_priceAll rfl rfl ?_)
  refine And.intro (by rw [ep]; exact vp_in_nI hpn (by decide)) ?_
  rw [cp]
  (repeat refine gp_gc [94, 114, 186] od_Se_priceAll rfl rfl ?_)
  refine And.intro (by rw [e66]; exact vp_in_nI hmi (by decide)) ⟨_, rfl, ?_⟩
  rw [cm]
  (repeat refine gp_gc [94, 114, 186] od_Se_priceAll rfl rfl ?_)
  refine sp_Su_clear (d := d + 3) (fun W1 f1 z1 => ?_)
  have V1 : gV w W1 := fun b _ h2 _ _ => f1 b h2
  (repeat refine gp_gc [94, 114, 186] od_Se_priceAll rfl rfl ?_)
  refine gs_get (gv_mark hmi) rfl rfl ?_
  (repeat refine gp_gc [94, 114, 186] od_Se_priceAll rfl rfl ?_)
  refine And.intro (pk_in 0 13 (by decide)) ?_
  rw [gv_a53]
  (repeat refine gp_gc [94, 114, 186] od_Se_priceAll rfl rfl ?_)
  refine gs_get (gv_mark hmi) rfl rfl ?_
  (repeat refine gp_gc [94, 114, 186] od_Se_priceAll rfl rfl ?_)
  refine And.intro (pk_in 1 13 (by decide)) ?_
  rw [gv_a53]
  (repeat refine gp_gc [94, 114, 186] od_Se_priceAll rfl rfl ?_)
  have V2 : gV w (gw (gw W1 53 0 (W1 (5 + mi) 0)) 53 1 (gw W1 53 0 (W1 (5 + mi) 0) (5 + mi) 2)) := gV_w (gV_w V1 (Or.inl rfl)) (Or.inl rfl)
  refine sp_Pl_leftOf (d := d + 3) (w := gw (gw W1 53 0 (W1 (5 + mi) 0)) 53 1 (gw W1 53 0 (W1 (5 + mi) 0) (5 + mi) 2)) hmi (by rw [gV_mk V2 hmi]; exact ik) ?_
  rw [gc_left_V V2 hmi]
  (repeat refine gp_gc [94, 114, 186] od_Se_priceAll rfl rfl ?_)
  refine And.intro (pk_in 2 13 (by decide)) ?_
  rw [gv_a53]
  (repeat refine gp_gc [94, 114, 186] od_Se_priceAll rfl rfl ?_)
  have V3 : gV w (gw (gw (gw W1 53 0 (W1 (5 + mi) 0)) 53 1 (gw W1 53 0 (W1 (5 + mi) 0) (5 + mi) 2)) 53 2 (if 0 < gc_left w mi (w 1 4) then gc_left w mi (w 1 4) else 0)) := gV_w V2 (Or.inl rfl)
  refine sp_Pl_wearOf (d := d + 2) (w := gw (gw (gw W1 53 0 (W1 (5 + mi) 0)) 53 1 (gw W1 53 0 (W1 (5 + mi) 0) (5 + mi) 2)) 53 2 (if 0 < gc_left w mi (w 1 4) then gc_left w mi (w 1 4) else 0)) hmi (by rw [gV_mk V3 hmi]; exact ik) ?_
  rw [gc_wear_V V3 hmi]
  have nxt : ∀ b : Int32, b = (if gc_wear w mi = 1 then 1 else 0) → gp_Go l G (d + 4) m_Se_priceAll K 94 [some (.ref 65), some (.int p), some (.ref (gp_ma m)), some (.ref (5 + mi)), none, none] [.int b, .int 3, .ref 53] (gv (gw (gw (gw W1 53 0 (W1 (5 + mi) 0)) 53 1 (gw W1 53 0 (W1 (5 + mi) 0) (5 + mi) 2)) 53 2 (if 0 < gc_left w mi (w 1 4) then gc_left w mi (w 1 4) else 0)) u q) 0 0 := by
    intro b eb
    refine gp_go od_Se_priceAll rfl ?_
    (repeat refine gp_gc [94, 114, 186] od_Se_priceAll rfl rfl ?_)
    refine And.intro (pk_in 3 13 (by decide)) ?_
    (repeat refine gp_gc [94, 114, 186] od_Se_priceAll rfl rfl ?_)
    refine And.intro (pk_in 5 13 (by decide)) ?_
    (repeat refine gp_gc [94, 114, 186] od_Se_priceAll rfl rfl ?_)
    have q1 : W1 (5 + mi) 0 = w (5 + mi) 0 := by rw [gV_mk V1 hmi]
    have q2 : gw W1 53 0 (W1 (5 + mi) 0) (5 + mi) 2 = w (5 + mi) 2 := by rw [gw_ne (by omega), gV_mk V1 hmi]
    rw [show p * (Int8.ofInt 6).toInt32 = nI (6 * pn) from e6, q2, q1]
    refine loop 6 0 (gw (gw (gw (gw (gw W1 53 0 (w (5 + mi) 0)) 53 1 (w (5 + mi) 2)) 53 2 (if 0 < gc_left w mi (w 1 4) then gc_left w mi (w 1 4) else 0)) 53 3 b) 53 5 p) (by omega) (gV_w (gV_w (gV_w (gV_w (gV_w V1 (Or.inl rfl)) (Or.inl rfl)) (Or.inl rfl)) (Or.inl rfl)) (Or.inl rfl)) ?_ ?_ ?_
    · refine ⟨rfl, rfl, gc_pos _, eb, ep, fun j h8 h13 => ?_⟩
      rw [gw_at, if_neg (by omega), gw_at, if_neg (by omega), gw_at, if_neg (by omega), gw_at, if_neg (by omega), gw_at, if_neg (by omega)]
      exact z1 j h13
    · intro x hx
      show W1 68 x = w 68 x
      rw [f1 68 (by decide)]
    · intro k hk
      exact absurd hk (by omega)
  (repeat refine gp_gc [94, 114, 186] od_Se_priceAll rfl rfl ?_)
  by_cases bw : gc_wear w mi = 1
  · refine gb_ne_f bw ?_
    (repeat refine gp_gc [94, 114, 186] od_Se_priceAll rfl rfl ?_)
    exact nxt _ (by rw [if_pos bw]; rfl)
  · refine gb_ne_t bw ?_
    (repeat refine gp_gc [94, 114, 186] od_Se_priceAll rfl rfl ?_)
    exact nxt _ (by rw [if_neg bw]; rfl)
end

end
