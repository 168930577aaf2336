section
variable {l : Launch} {G : gp_G} {d : Nat} {w : Nat → Nat → Int32} {u : Int64 × (Nat → Int64)} {q : Nat → Nat} {K : Option Value → gp_H → Prop}
/-! ===== the reference's methods: all prices ===== -/
def gf_F (kd co le wo pl : Int32) (t tw : Nat) (j : Nat) : Int32 := match j with
  | 1 => kd
  | 2 => co
  | 3 => le
  | 4 => wo
  | 5 => if 1 < t then 1 else 0
  | 6 => pl
  | 7 => if t = 0 then 0 else nI tw
  | 8 => if t = 0 then 1 else 0
  | _ => 0
def gf_pos (x : Int32) : Int32 := if x < 0 then 0 else x
def gf_worn (w : Nat → Nat → Int32) (m : Nat) : Int32 := if 0 < gf_left w (nI m) (w 95 1) ∧ gf_left w (nI m) (w 95 1) < gf_depth w (nI m) / 2 then 1 else 0
/-- the facts at place i of the message, for a taking, twice or not -/
def gf_Fm (w : Nat → Nat → Int32) (ms : Nat → Nat) (i t tw : Nat) : Nat → Int32 := gf_F (w 96 (ms i)) (w 98 (ms i)) (gf_pos (gf_left w (nI (ms i)) (w 95 1))) (gf_worn w (ms i)) (nI i) t tw
/-- n marks stand in the message, and which -/
def gf_ms (w : Nat → Nat → Int32) (n : Nat) (ms : Nat → Nat) : Prop := w 95 2 = nI n ∧ ∀ i, i < n → w 105 i = nI (ms i) ∧ ms i < 16 ∧ vp_in (w 96 (ms i)) 7
def gf_lp (w : Nat → Nat → Int32) (k : Int32) (f g p : Nat → Int32) : Nat → Nat → Int32 := gr (gr (gr (gw w 95 46 k) 119 f) 120 g) 123 p
theorem gf_prs_congr {w W : Nat → Nat → Int32} {k : Nat} (h4 : W 114 = w 114) (h5 : W 115 = w 115) (h6 : W 116 = w 116) (h7 : W 117 = w 117) : ∀ (PL : List (gf_L × gf_L)) (i : Nat), gf_prs w k i PL → gf_prs W k i PL
  | [], _, _ => trivial
  | (E, B) :: t, i, h => by
    obtain ⟨⟨a, g1, g2, g3, g4, g5, g6⟩, wE, wB, hp⟩ := h
    exact ⟨⟨a, by rw [h4]; exact g1, by rw [h5]; exact g2, by rw [h6]; exact g3, g4, by rw [h7]; exact g5, by rw [h7]; exact g6⟩, wE, wB, gf_prs_congr h4 h5 h6 h7 t (i + 1) hp⟩
theorem gf_lp_119 (w : Nat → Nat → Int32) (k : Int32) (f g p f2 : Nat → Int32) : gr (gf_lp w k f g p) 119 f2 = gf_lp w k f2 g p := by
  funext b
  by_cases h1 : b = 123
  · subst h1; rfl
  by_cases h2 : b = 120
  · subst h2; rfl
  by_cases h3 : b = 119
  · subst h3; rfl
  simp only [gr, gf_lp, if_neg h1, if_neg h2, if_neg h3]
section
variable {k m : Int32} {kn i t : Nat} {PL : List (gf_L × gf_L)} {kd co le wo : Int32} {Q : Nat → Int32}
set_option maxRecDepth 100000 in
theorem gl_lp3 (ek : k = nI kn) (hk : kn < 7) (en : w 110 kn = nI PL.length) (hn : PL.length ≤ 16) (hp : gf_prs w kn 0 PL) (hi : i < 10) (ht : t < 4)
    (hQ : ∀ tw, tw < 2 → gf_price (gf_F kd co le wo (nI i) t tw) PL = Q (8 * i + 2 * t + tw))
    (h : ∀ f g p, (∀ j, j < 14 → j ≠ 7 → g j = gf_F kd co le wo (nI i) t 0 j) → (∀ x, x < 8 * i + 2 * t + 2 → p x = Q x) → gp_Go l G (d + 3) m_Rf_laysPrices K 128 [some (.ref 95), some (.int k), some (.int (nI i)), some (.int m), some (.int (nI (t + 1))), none] [] (gv (gf_lp w k f g p) u q) 0 0) :
    ∀ (r tw : Nat), tw + r = 2 → ∀ f g p, (∀ j, j < 14 → j ≠ 7 → g j = gf_F kd co le wo (nI i) t 0 j) → (∀ x, x < 8 * i + 2 * t + tw → p x = Q x) → gp_Go l G (d + 3) m_Rf_laysPrices K 171 [some (.ref 95), some (.int k), some (.int (nI i)), some (.int m), some (.int (nI t)), some (.int (nI tw))] [] (gv (gf_lp w k f g p) u q) 0 0 := by
  intro r
  induction r with
  | zero =>
    intro tw e f g p hg hpx
    obtain rfl : tw = 2 := by omega
    refine gp_go od_Rf_laysPrices rfl ?_
    (repeat refine gp_gc [7, 28, 128, 171] od_Rf_laysPrices rfl rfl ?_)
    refine gb_ge_t (by decide) ?_
    (repeat refine gp_gc [7, 28, 128, 171] od_Rf_laysPrices rfl rfl ?_)
    refine gp_drop 5 ?_
    rw [gp_inc (i := t) rfl]
    exact h f g p hg hpx
  | succ r ih =>
    intro tw e f g p hg hpx
    have htw : tw < 2 := by omega
    have ex : 8 * nI i + 2 * nI t + nI tw = nI (8 * i + 2 * t + tw) := by
      show nI 8 * nI i + nI 2 * nI t + nI tw = _
      rw [pk_mul, pk_mul, nI_add, nI_add]
    have ix : vp_in (nI (8 * i + 2 * t + tw)) 80 := vp_in_nI (by omega) (by decide)
    have cx : (nI (8 * i + 2 * t + tw)).toNatClampNeg = 8 * i + 2 * t + tw := nI_clamp (by omega)
    have step : ∀ v : Int32, v = (if t = 0 then 0 else nI tw) → gp_Go l G (d + 3) m_Rf_laysPrices K 195 [some (.ref 95), some (.int k), some (.int (nI i)), some (.int m), some (.int (nI t)), some (.int (nI tw))] [] (gv (gf_lp w k f (upd g 7 v) p) u q) 0 0 := by
      intro v ev
      refine gp_go od_Rf_laysPrices rfl ?_
      (repeat refine gp_gc [7, 28, 128, 171] od_Rf_laysPrices rfl rfl ?_)
      refine sp_Rf_priceNow (d := d) (w := gf_lp w k f (upd g 7 v) p) ek hk en hn (gf_prs_congr (w := w) (W := gf_lp w k f (upd g 7 v) p) rfl rfl rfl rfl PL 0 hp) (fun f2 => ?_)
      rw [gf_lp_119]
      have hg2 : ∀ j, j < 14 → upd g 7 v j = gf_F kd co le wo (nI i) t tw j := by
        intro j hj
        by_cases h7 : j = 7
        · subst h7
          show v = _
          rw [ev]; rfl
        · have : upd g 7 v j = g j := if_neg h7
          rw [this, hg j hj h7]
          unfold gf_F
          split <;> first | rfl | omega
      have hv : gf_price (gf_lp w k f (upd g 7 v) p 120) PL = Q (8 * i + 2 * t + tw) := by
        rw [← hQ tw htw]
        exact gf_price_congr hg2 PL
      rw [hv]
      (repeat refine gp_gc [7, 28, 128, 171] od_Rf_laysPrices rfl rfl ?_)
      rw [show (Int8.ofInt 8).toInt32 * nI i + Int32.ofInt 2 * nI t + nI tw = nI (8 * i + 2 * t + tw) from ex]
      refine And.intro ix ?_
      (repeat refine gp_gc [7, 28, 128, 171] od_Rf_laysPrices rfl rfl ?_)
      rw [gp_inc (i := tw) rfl, cx]
      refine ih (tw + 1) (by omega) f2 (upd g 7 v) (upd p (8 * i + 2 * t + tw) (Q (8 * i + 2 * t + tw))) (fun j hj h7 => (if_neg h7).trans (hg j hj h7)) (fun x hx => ?_)
      by_cases hxe : x = 8 * i + 2 * t + tw
      · subst hxe
        exact if_pos rfl
      · exact (if_neg hxe).trans (hpx x (by omega))
    refine gp_go od_Rf_laysPrices rfl ?_
    (repeat refine gp_gc [7, 28, 128, 171] od_Rf_laysPrices rfl rfl ?_)
    refine gb_ge_f (nI_ge htw (by decide)) ?_
    (repeat refine gp_gc [7, 28, 128, 171, 195] od_Rf_laysPrices rfl rfl ?_)
    by_cases b : t = 0
    · subst b
      refine gb1_ne_f rfl ?_
      (repeat refine gp_gc [7, 28, 128, 171, 195] od_Rf_laysPrices rfl rfl ?_)
      refine And.intro (vp_in_nI (n := 7) (by decide) (by decide)) ?_
      (repeat refine gp_gc [7, 28, 128, 171, 195] od_Rf_laysPrices rfl rfl ?_)
      exact step 0 rfl
    · refine gb1_ne_t (nI_ne0 (Nat.pos_of_ne_zero b) (by omega)) ?_
      (repeat refine gp_gc [7, 28, 128, 171, 195] od_Rf_laysPrices rfl rfl ?_)
      refine And.intro (vp_in_nI (n := 7) (by decide) (by decide)) ?_
      (repeat refine gp_gc [7, 28, 128, 171, 195] od_Rf_laysPrices rfl rfl ?_)
      exact step (nI tw) (if_neg b).symm
set_option maxRecDepth 100000 in
theorem gl_lp2 (ek : k = nI kn) (hk : kn < 7) (en : w 110 kn = nI PL.length) (hn : PL.length ≤ 16) (hp : gf_prs w kn 0 PL) (hi : i < 10)
    (hQ : ∀ t tw, t < 4 → tw < 2 → gf_price (gf_F kd co le wo (nI i) t tw) PL = Q (8 * i + 2 * t + tw))
    (h : ∀ f g p, (∀ j, j < 14 → j = 0 ∨ 9 ≤ j → g j = 0) → (∀ x, x < 8 * (i + 1) → p x = Q x) → gp_Go l G (d + 3) m_Rf_laysPrices K 28 [some (.ref 95), some (.int k), some (.int (nI (i + 1))), none, none, none] [] (gv (gf_lp w k f g p) u q) 0 0) :
    ∀ (r t : Nat), t + r = 4 → ∀ f g p, (∀ j, j < 14 → j ≠ 5 → j ≠ 7 → j ≠ 8 → g j = gf_F kd co le wo (nI i) 0 0 j) → (∀ x, x < 8 * i + 2 * t → p x = Q x) → gp_Go l G (d + 3) m_Rf_laysPrices K 128 [some (.ref 95), some (.int k), some (.int (nI i)), some (.int m), some (.int (nI t)), none] [] (gv (gf_lp w k f g p) u q) 0 0 := by
  intro r
  induction r with
  | zero =>
    intro t e f g p hg hpx
    obtain rfl : t = 4 := by omega
    refine gp_go od_Rf_laysPrices rfl ?_
    (repeat refine gp_gc [7, 28, 128, 171] od_Rf_laysPrices rfl rfl ?_)
    refine gb_ge_t (by decide) ?_
    (repeat refine gp_gc [7, 28, 128, 171] od_Rf_laysPrices rfl rfl ?_)
    refine gp_drop 3 ?_
    refine gp_drop 4 ?_
    rw [gp_inc (i := i) rfl]
    refine h f g p (fun j hj h9 => ?_) (fun x hx => hpx x (by omega))
    rw [hg j hj (by omega) (by omega) (by omega)]
    unfold gf_F
    split <;> first | rfl | omega
  | succ r ih =>
    intro t e f g p hg hpx
    have ht : t < 4 := by omega
    have step2 : ∀ v v8 : Int32, v = (if 1 < t then 1 else 0) → v8 = (if t = 0 then 1 else 0) → gp_Go l G (d + 3) m_Rf_laysPrices K 168 [some (.ref 95), some (.int k), some (.int (nI i)), some (.int m), some (.int (nI t)), none] [] (gv (gf_lp w k f (upd (upd g 5 v) 8 v8) p) u q) 0 0 := by
      intro v v8 ev ev8
      refine gp_go od_Rf_laysPrices rfl ?_
      (repeat refine gp_gc [7, 28, 128, 171] od_Rf_laysPrices rfl rfl ?_)
      refine gl_lp3 ek hk en hn hp hi ht (fun tw htw => hQ t tw ht htw) ?_ 2 0 rfl f _ p ?_ (fun x hx => hpx x (by omega))
      · intro f g p hg hpx
        refine ih (t + 1) (by omega) f g p (fun j hj h5 h7 h8 => ?_) (fun x hx => hpx x (by omega))
        rw [hg j hj h7]
        unfold gf_F
        split <;> first | rfl | omega
      · intro j hj h7
        by_cases h8 : j = 8
        · subst h8
          show v8 = _
          rw [ev8]; rfl
        · have e8 : upd (upd g 5 v) 8 v8 j = upd g 5 v j := if_neg h8
          rw [e8]
          by_cases h5 : j = 5
          · subst h5
            show v = _
            rw [ev]; rfl
          · have e5 : upd g 5 v j = g j := if_neg h5
            rw [e5, hg j hj h5 h7 h8]
            unfold gf_F
            split <;> first | rfl | omega
    have step1 : ∀ v : Int32, v = (if 1 < t then 1 else 0) → gp_Go l G (d + 3) m_Rf_laysPrices K 151 [some (.ref 95), some (.int k), some (.int (nI i)), some (.int m), some (.int (nI t)), none] [] (gv (gf_lp w k f (upd g 5 v) p) u q) 0 0 := by
      intro v ev
      refine gp_go od_Rf_laysPrices rfl ?_
      (repeat refine gp_gc [7, 28, 128, 168, 171] od_Rf_laysPrices rfl rfl ?_)
      by_cases b : t = 0
      · subst b
        refine gb1_ne_f rfl ?_
        (repeat refine gp_gc [7, 28, 128, 168, 171] od_Rf_laysPrices rfl rfl ?_)
        refine And.intro (vp_in_nI (n := 8) (by decide) (by decide)) ?_
        (repeat refine gp_gc [7, 28, 128, 168, 171] od_Rf_laysPrices rfl rfl ?_)
        exact step2 v 1 ev rfl
      · refine gb1_ne_t (nI_ne0 (Nat.pos_of_ne_zero b) (by omega)) ?_
        (repeat refine gp_gc [7, 28, 128, 168, 171] od_Rf_laysPrices rfl rfl ?_)
        refine And.intro (vp_in_nI (n := 8) (by decide) (by decide)) ?_
        (repeat refine gp_gc [7, 28, 128, 168, 171] od_Rf_laysPrices rfl rfl ?_)
        exact step2 v 0 ev (if_neg b).symm
    refine gp_go od_Rf_laysPrices rfl ?_
    (repeat refine gp_gc [7, 28, 128, 168, 171] od_Rf_laysPrices rfl rfl ?_)
    refine gb_ge_f (nI_ge ht (by decide)) ?_
    (repeat refine gp_gc [7, 28, 128, 151, 171] od_Rf_laysPrices rfl rfl ?_)
    by_cases b : 1 < t
    · refine gb_le_f (nI_ge b (by omega)) ?_
      (repeat refine gp_gc [7, 28, 128, 151, 171] od_Rf_laysPrices rfl rfl ?_)
      refine And.intro (vp_in_nI (n := 5) (by decide) (by decide)) ?_
      (repeat refine gp_gc [7, 28, 128, 151, 171] od_Rf_laysPrices rfl rfl ?_)
      exact step1 1 (if_pos b).symm
    · refine gb_le_t (nI_le (b := 1) (by omega) (by decide)) ?_
      (repeat refine gp_gc [7, 28, 128, 151, 171] od_Rf_laysPrices rfl rfl ?_)
      refine And.intro (vp_in_nI (n := 5) (by decide) (by decide)) ?_
      (repeat refine gp_gc [7, 28, 128, 151, 171] od_Rf_laysPrices rfl rfl ?_)
      exact step1 0 (if_neg b).symm
end
section
variable {k : Int32} {kn n : Nat} {PL : List (gf_L × gf_L)} {ms : Nat → Nat}
def gf_Q (w : Nat → Nat → Int32) (ms : Nat → Nat) (PL : List (gf_L × gf_L)) (x : Nat) : Int32 := gf_price (gf_Fm w ms (x / 8) (x % 8 / 2) (x % 2)) PL
set_option maxRecDepth 100000 in
theorem gl_lp1 (ek : k = nI kn) (hk : kn < 7) (en : w 110 kn = nI PL.length) (hn : PL.length ≤ 16) (hp : gf_prs w kn 0 PL) (hm : gf_ms w n ms) (hn10 : n ≤ 10)
    (h : ∀ f g p, (∀ x, x < 8 * n → p x = gf_Q w ms PL x) → K none (gv (gf_lp w k f g p) u q)) :
    ∀ (r i : Nat), i + r = n → ∀ f g p, (∀ j, j < 14 → j = 0 ∨ 9 ≤ j → g j = 0) → (∀ x, x < 8 * i → p x = gf_Q w ms PL x) → gp_Go l G (d + 3) m_Rf_laysPrices K 28 [some (.ref 95), some (.int k), some (.int (nI i)), none, none, none] [] (gv (gf_lp w k f g p) u q) 0 0 := by
  intro r
  induction r with
  | zero =>
    intro i e f g p hg hpx
    obtain rfl : i = n := by omega
    refine gp_go od_Rf_laysPrices rfl ?_
    (repeat refine gp_gc [7, 28, 128, 171] od_Rf_laysPrices rfl rfl ?_)
    refine gb_ge_t (by show w 95 2 ≤ nI i; rw [hm.1]; exact Int32.le_refl _) ?_
    (repeat refine gp_gc [7, 28, 128, 171] od_Rf_laysPrices rfl rfl ?_)
    exact h f g p hpx
  | succ r ih =>
    intro i e f g p hg hpx
    obtain ⟨m1, m2, m3⟩ := hm.2 i (by omega)
    have ci : (nI i).toNatClampNeg = i := nI_clamp (by omega)
    have cm : (nI (ms i)).toNatClampNeg = ms i := nI_clamp (by omega)
    have im : vp_in (nI (ms i)) 16 := vp_in_nI m2 (by decide)
    have ik : vp_in (w 96 (nI (ms i)).toNatClampNeg) 7 := by rw [cm]; exact m3
    have em : w 105 (nI i).toNatClampNeg = nI (ms i) := by rw [ci]; exact m1
    have stepB : ∀ v le co kd : Int32, v = gf_worn w (ms i) → le = gf_pos (gf_left w (nI (ms i)) (w 95 1)) → co = w 98 (ms i) → kd = w 96 (ms i) → gp_Go l G (d + 3) m_Rf_laysPrices K 116 [some (.ref 95), some (.int k), some (.int (nI i)), some (.int (nI (ms i))), none, none] [.int v, .int 4, .ref 120] (gv (gf_lp w k f (upd (upd (upd g 1 kd) 2 co) 3 le) p) u q) 0 0 := by
      intro v le co kd ev el ec ekd
      refine gp_go od_Rf_laysPrices rfl ?_
      (repeat refine gp_gc [7, 28, 128, 171] od_Rf_laysPrices rfl rfl ?_)
      refine And.intro (vp_in_nI (n := 4) (by decide) (by decide)) ?_
      (repeat refine gp_gc [7, 28, 128, 171] od_Rf_laysPrices rfl rfl ?_)
      refine And.intro (vp_in_nI (n := 6) (by decide) (by decide)) ?_
      (repeat refine gp_gc [7, 28, 128, 171] od_Rf_laysPrices rfl rfl ?_)
      refine gl_lp2 (kd := kd) (co := co) (le := le) (wo := v) (Q := gf_Q w ms PL) ek hk en hn hp (show i < 10 by omega) ?_ ?_ 4 0 rfl f (upd (upd (upd (upd (upd g 1 kd) 2 co) 3 le) 4 v) 6 (nI i)) p ?_ (fun x hx => hpx x (by omega))
      · intro t tw ht htw
        unfold gf_Q gf_Fm
        rw [show (8 * i + 2 * t + tw) / 8 = i by omega, show (8 * i + 2 * t + tw) % 8 / 2 = t by omega, show (8 * i + 2 * t + tw) % 2 = tw by omega, ev, el, ec, ekd]
      · intro f g p hg hpx
        exact ih (i + 1) (by omega) f g p hg hpx
      · intro j hj h5 h7 h8
        by_cases h9 : j = 0 ∨ 9 ≤ j
        · have : upd (upd (upd (upd (upd g 1 kd) 2 co) 3 le) 4 v) 6 (nI i) j = g j := by
            simp only [upd]
            rw [if_neg (by omega), if_neg (by omega), if_neg (by omega), if_neg (by omega), if_neg (by omega)]
          rw [this, hg j hj h9]
          unfold gf_F
          split <;> first | rfl | omega
        · rcases (show j = 1 ∨ j = 2 ∨ j = 3 ∨ j = 4 ∨ j = 6 by omega) with rfl | rfl | rfl | rfl | rfl <;> rfl
    have stepA : ∀ le co kd : Int32, le = gf_pos (gf_left w (nI (ms i)) (w 95 1)) → co = w 98 (ms i) → kd = w 96 (ms i) → gp_Go l G (d + 3) m_Rf_laysPrices K 97 [some (.ref 95), some (.int k), some (.int (nI i)), some (.int (nI (ms i))), none, none] [.int le, .int 3, .ref 120] (gv (gf_lp w k f (upd (upd g 1 kd) 2 co) p) u q) 0 0 := by
      intro le co kd el ec ekd
      refine gp_go od_Rf_laysPrices rfl ?_
      (repeat refine gp_gc [7, 28, 116, 128, 171] od_Rf_laysPrices rfl rfl ?_)
      refine And.intro (vp_in_nI (n := 3) (by decide) (by decide)) ?_
      (repeat refine gp_gc [7, 28, 116, 128, 171] od_Rf_laysPrices rfl rfl ?_)
      refine sp_Rf_isWorn (d := d) (w := gf_lp w k f (upd (upd (upd g 1 kd) 2 co) 3 le) p) im ik (fun b1 b2 => ?_) (fun b => ?_)
      · (repeat refine gp_gc [7, 28, 116, 128, 171] od_Rf_laysPrices rfl rfl ?_)
        refine gb1_eq_f (by decide) ?_
        (repeat refine gp_gc [7, 28, 116, 128, 171] od_Rf_laysPrices rfl rfl ?_)
        exact stepB 1 le co kd (if_pos ⟨b1, b2⟩).symm el ec ekd
      · (repeat refine gp_gc [7, 28, 116, 128, 171] od_Rf_laysPrices rfl rfl ?_)
        refine gb1_eq_t rfl ?_
        (repeat refine gp_gc [7, 28, 116, 128, 171] od_Rf_laysPrices rfl rfl ?_)
        exact stepB 0 le co kd (if_neg b).symm el ec ekd
    refine gp_go od_Rf_laysPrices rfl ?_
    (repeat refine gp_gc [7, 28, 116, 128, 171] od_Rf_laysPrices rfl rfl ?_)
    refine gb_ge_f (by show ¬ w 95 2 ≤ nI i; rw [hm.1]; exact nI_ge (by omega) (by omega)) ?_
    (repeat refine gp_gc [7, 28, 116, 128, 171] od_Rf_laysPrices rfl rfl ?_)
    refine And.intro (vp_in_nI (by omega) (by decide)) ?_
    (repeat refine gp_gc [7, 28, 97, 128, 171] od_Rf_laysPrices rfl rfl ?_)
    rw [show gf_lp w k f g p 105 (nI i).toNatClampNeg = nI (ms i) from em]
    refine And.intro im ?_
    (repeat refine gp_gc [7, 28, 97, 128, 171] od_Rf_laysPrices rfl rfl ?_)
    refine And.intro (vp_in_nI (n := 1) (by decide) (by decide)) ?_
    (repeat refine gp_gc [7, 28, 97, 128, 171] od_Rf_laysPrices rfl rfl ?_)
    refine And.intro im ?_
    (repeat refine gp_gc [7, 28, 97, 128, 171] od_Rf_laysPrices rfl rfl ?_)
    refine And.intro (vp_in_nI (n := 2) (by decide) (by decide)) ?_
    (repeat refine gp_gc [7, 28, 97, 128, 171] od_Rf_laysPrices rfl rfl ?_)
    refine sp_Rf_left (d := d + 1) (w := gf_lp w k f (upd (upd g 1 (w 96 (nI (ms i)).toNatClampNeg)) 2 (w 98 (nI (ms i)).toNatClampNeg)) p) im ik ?_
    (repeat refine gp_gc [7, 28, 97, 128, 171] od_Rf_laysPrices rfl rfl ?_)
    by_cases b : gf_left w (nI (ms i)) (w 95 1) < 0
    · refine gb1_ge_f' b ?_
      (repeat refine gp_gc [7, 28, 97, 128, 171] od_Rf_laysPrices rfl rfl ?_)
      exact stepA 0 _ _ (if_pos b).symm (by rw [cm]) (by rw [cm])
    · refine gb1_ge_t' b ?_
      (repeat refine gp_gc [7, 28, 97, 128, 171] od_Rf_laysPrices rfl rfl ?_)
      refine sp_Rf_left (d := d + 1) (w := gf_lp w k f (upd (upd g 1 (w 96 (nI (ms i)).toNatClampNeg)) 2 (w 98 (nI (ms i)).toNatClampNeg)) p) im ik ?_
      (repeat refine gp_gc [7, 28, 97, 128, 171] od_Rf_laysPrices rfl rfl ?_)
      exact stepA (gf_left w (nI (ms i)) (w 95 1)) _ _ (if_neg b).symm (by rw [cm]) (by rw [cm])
set_option maxRecDepth 100000 in
theorem sp_Rf_laysPrices (ek : k = nI kn) (hk : kn < 7) (en : w 110 kn = nI PL.length) (hn : PL.length ≤ 16) (hp : gf_prs w kn 0 PL) (hm : gf_ms w n ms) (hn10 : n ≤ 10) (h : ∀ f g p, (∀ x, x < 8 * n → p x = gf_Q w ms PL x) → K none (gv (gf_lp w k f g p) u q)) : gp_Cal l G (d + 3) m_Rf_laysPrices [.ref 95, .int k] (gv w u q) K := by
  refine gp_enter od_Rf_laysPrices rfl ?_
  (repeat refine gp_gc [7, 28, 128, 171] od_Rf_laysPrices rfl rfl ?_)
  have key : ∀ (r j : Nat), j + r = 14 → ∀ g, (∀ x, x < j → g x = 0) → gp_Go l G (d + 3) m_Rf_laysPrices K 7 [some (.ref 95), some (.int k), some (.int (nI j)), none, none, none] [] (gv (gf_lp w k (w 119) g (w 123)) u q) 0 0 := by
    intro r
    induction r with
    | zero =>
      intro j e g hg
      obtain rfl : j = 14 := by omega
      refine gp_go od_Rf_laysPrices rfl ?_
      (repeat refine gp_gc [7, 28, 128, 171] od_Rf_laysPrices rfl rfl ?_)
      refine gb_ge_t (by decide) ?_
      (repeat refine gp_gc [7, 28, 128, 171] od_Rf_laysPrices rfl rfl ?_)
      exact gl_lp1 ek hk en hn hp hm hn10 h n 0 (by omega) (w 119) g (w 123) (fun j hj _ => hg j hj) (fun x hx => by omega)
    | succ r ih =>
      intro j e g hg
      refine gp_go od_Rf_laysPrices rfl ?_
      (repeat refine gp_gc [7, 28, 128, 171] od_Rf_laysPrices rfl rfl ?_)
      refine gb_ge_f (show ¬ nI 14 ≤ nI j from nI_ge (by omega) (by decide)) ?_
      (repeat refine gp_gc [7, 28, 128, 171] od_Rf_laysPrices rfl rfl ?_)
      refine And.intro (vp_in_nI (by omega) (by decide)) ?_
      (repeat refine gp_gc [7, 28, 128, 171] od_Rf_laysPrices rfl rfl ?_)
      rw [gp_inc (i := j) rfl, show (nI j).toNatClampNeg = j from nI_clamp (by omega)]
      refine ih (j + 1) (by omega) (upd g j 0) (fun x hx => ?_)
      by_cases hxj : x = j
      · exact if_pos hxj
      · exact (if_neg hxj).trans (hg x (by omega))
  exact key 14 0 rfl (w 120) (fun x hx => by omega)
end

end
