section
variable {l : Launch} {G : gp_G} {d : Nat} {w : Nat → Nat → Int32} {u : Int64 × (Nat → Int64)} {q : Nat → Nat} {K : Option Value → gp_H → Prop}
/-! ===== the class's search: setUp ===== -/
def gX (w W : Nat → Nat → Int32) : Prop := ∀ b, b ≠ 52 → b ≠ 53 → b ≠ 54 → ¬ (65 ≤ b ∧ b ≤ 71) → W b = w b
theorem gX_r (w : Nat → Nat → Int32) : gX w w := fun _ _ _ _ _ => rfl
theorem gX_t {w W X : Nat → Nat → Int32} (h1 : gX w W) (h2 : gX W X) : gX w X := fun b a c e f => (h2 b a c e f).trans (h1 b a c e f)
theorem gX_w {w W : Nat → Nat → Int32} {a k : Nat} {x : Int32} (h : gX w W) (ha : 65 ≤ a ∧ a ≤ 71) : gX w (gw W a k x) := fun b h1 h2 h3 h4 => by
  rw [gw_ne (by rintro rfl; exact h4 ha)]
  exact h b h1 h2 h3 h4
theorem gX_V {w W : Nat → Nat → Int32} (h : gV w W) : gX w W := fun b h1 h2 h3 h4 => h b h1 h2 h3 (by omega)
theorem gX_R {w W : Nat → Nat → Int32} (h : gX w W) : gs_R w W := by
  refine ⟨fun b hb h83 h95 => ?_, fun k _ => by rw [h 95 (by decide) (by decide) (by decide) (by decide)], by rw [h 83 (by decide) (by decide) (by decide) (by decide)]⟩
  refine h b (fun z => ?_) (fun z => ?_) (fun z => ?_) (fun z => ?_)
  · rw [z] at hb; exact absurd hb (by decide)
  · rw [z] at hb; exact absurd hb (by decide)
  · rw [z] at hb; exact absurd hb (by decide)
  · have key : ∀ b, b < 72 → 65 ≤ b → gs_b b = true := by decide
    rw [key b (by omega) z.1] at hb
    exact absurd hb (by decide)
theorem gX_ma {w W : Nat → Nat → Int32} (h : gX w W) {m j : Nat} (hm : m < 7) (hj : j ≤ 4) : W (gp_ma m + j) = w (gp_ma m + j) := by
  have b := gp_ma_n hm j hj
  exact h _ (by omega) (by omega) (by omega) (by omega)
theorem gX_mk {w W : Nat → Nat → Int32} (h : gX w W) {i : Nat} (hi : i < 16) : W (5 + i) = w (5 + i) := h _ (by omega) (by omega) (by omega) (by omega)
theorem gv_a66 {w : Nat → Nat → Int32} {u : Int64 × (Nat → Int64)} {q : Nat → Nat} {j : Nat} {x : Int32} : (gv w u q).set 66 (.inl (0, 10, .inl (upd (w 66) j x))) = gv (gw w 66 j x) u q := rfl
theorem gv_a67 {w : Nat → Nat → Int32} {u : Int64 × (Nat → Int64)} {q : Nat → Nat} {j : Nat} {x : Int32} : (gv w u q).set 67 (.inl (0, 10, .inl (upd (w 67) j x))) = gv (gw w 67 j x) u q := rfl
/-- which takings a place may have, whatever the others have -/
def gc_A (w : Nat → Nat → Int32) (m : Nat) (ms : Nat → Nat) (j t : Nat) : Bool := decide (gc_see w m (ms j)) && (if t = 1 then decide (w (5 + ms j) 6 &&& (w (gp_ma m) 5 ^^^ -1) = 0 ∧ w (5 + ms j) 5 &&& (gz_R ms (fun _ => 1) j ^^^ -1) = 0) else decide (¬ w (5 + ms j) (t + 5) = -1))
def gc_P (w : Nat → Nat → Int32) (ms : Nat → Nat) (PL : List (gf_L × gf_L)) (x : Nat) : Nat := (gf_price (gc_Fm w (ms (x / 6)) (x / 6) (x % 6 / 2) (x % 6 % 2)) PL).toNatClampNeg
theorem gc_P_e (w : Nat → Nat → Int32) (ms : Nat → Nat) (PL : List (gf_L × gf_L)) (x : Nat) : gf_price (gc_Fm w (ms (x / 6)) (x / 6) (x % 6 / 2) (x % 6 % 2)) PL = nI (gc_P w ms PL x) ∧ gc_P w ms PL x ≤ 999 := by
  obtain ⟨p, hp, e⟩ := gf_price_b (gc_Fm w (ms (x / 6)) (x / 6) (x % 6 / 2) (x % 6 % 2)) PL
  unfold gc_P
  rw [e, nI_clamp (by omega)]
  exact ⟨rfl, hp⟩
def gS_H (w W : Nat → Nat → Int32) (m n : Nat) (ms : Nat → Nat) (PL : List (gf_L × gf_L)) : Prop := gX w W ∧ W 65 8 = nI n ∧ (∀ i, i < n → W 66 i = nI (ms i)) ∧ (∀ i, i < n → W 67 i = gc_tv (gc_A w m ms i 1) (gc_A w m ms i 2) (gc_A w m ms i 3)) ∧ (∀ x, x < 6 * n → W 68 x = nI (gc_P w ms PL x)) ∧ ∀ i, i ≤ n → W 69 i = nI (gc_fl (gc_P w ms PL) (gc_A w m ms) n (n - i))
section
variable {m n : Nat} {ms : Nat → Nat} {PL : List (gf_L × gf_L)}
theorem gz_R1 (ms : Nat → Nat) (i : Nat) : gz_R ms (fun _ => 1) (i + 1) = gz_R ms (fun _ => 1) i ||| 1 <<< (nI (ms i) &&& 31) := by
  show gz_R ms (fun _ => 1) i ||| (if 1 = 1 then 1 <<< (nI (ms i) &&& 31) else 0) = _
  rw [if_pos rfl]
set_option maxRecDepth 100000 in
theorem sp_Se_setUp {M : Int64} {len : Int32} (hm : m < 7) (hM : gm_P M n ms) (hn : n ≤ 10) (el : len = nI n) (hk : ∀ i, i < 16 → vp_in (w (5 + i) 0) 7) (en : w (gp_ma m) 8 = nI PL.length) (hPL : PL.length ≤ 16) (hp : gc_prs w m 0 PL) (h : ∀ W, gS_H w W m n ms PL → K none (gv W u q)) : gp_Cal l G (d + 5) m_Se_setUp [.ref 65, .long M, .int len, .ref (gp_ma m)] (gv w u q) K := by
  refine gp_enter od_Se_setUp rfl ?_
  have loop : ∀ (r i : Nat) (W : Nat → Nat → Int32), i + r = n → gX w W → W 65 8 = nI n → (∀ j, j < i → W 66 j = nI (ms j)) → (∀ j, j < i → W 67 j = gc_tv (gc_A w m ms j 1) (gc_A w m ms j 2) (gc_A w m ms j 3)) → (∀ x, x < 6 * i → W 68 x = nI (gc_P w ms PL x)) → gp_Go l G (d + 5) m_Se_setUp K 16 [some (.ref 65), some (.long M), none, some (.int len), some (.ref (gp_ma m)), some (.int (gz_R ms (fun _ => 1) i)), some (.int (nI i))] [] (gv W u q) 0 0 := by
    intro r
    induction r with
    | zero =>
      intro i W hi hX e8 h6 h7 h68
      have ei : i = n := by omega
      subst ei
      refine gp_go od_Se_setUp rfl ?_
      (repeat refine gp_gc [16] od_Se_setUp rfl rfl ?_)
      refine gb_ge_t (by rw [e8]; exact Int32.le_refl _) ?_
      (repeat refine gp_gc [16] od_Se_setUp rfl rfl ?_)
      refine sp_Se_setFloors (d := d + 3) (n := i) (P := gc_P w ms PL) (A := gc_A w m ms) e8 hn h7 (fun x hx => ⟨h68 x hx, (gc_P_e w ms PL x).2⟩) (fun W2 hW2 hf => ?_)
      (repeat refine gp_gc [16] od_Se_setUp rfl rfl ?_)
      refine h W2 ⟨gX_t hX (fun b _ _ _ h4 => hW2 b (by omega)), by rw [hW2 65 (by decide)]; exact e8, ?_, ?_, ?_, hf⟩
      · rw [hW2 66 (by decide)]; exact h6
      · rw [hW2 67 (by decide)]; exact h7
      · rw [hW2 68 (by decide)]; exact h68
    | succ r ih =>
      intro i W hi hX e8 h6 h7 h68
      have hms := hM.2.2 i (by omega)
      have ci : (nI i).toNatClampNeg = i := nI_clamp (by omega)
      have cm : (nI (ms i)).toNatClampNeg = ms i := nI_clamp (by omega)
      have ii : vp_in (nI i) 10 := vp_in_nI (by omega) (by decide)
      have im : vp_in (nI (ms i)) 16 := vp_in_nI hms (by decide)
      have inc : nI i + Int32.ofInt 1 = nI (i + 1) := gp_inc rfl
      have Xa : gX w (gw W 66 i (nI (ms i))) := gX_w hX (by decide)
      have ra : gw W 66 i (nI (ms i)) 66 i = nI (ms i) := by rw [gw_at, if_pos rfl]
      refine gp_go od_Se_setUp rfl ?_
      (repeat refine gp_gc [16] od_Se_setUp rfl rfl ?_)
      refine gb_ge_f (by rw [e8]; exact nI_ge (by omega) (by omega)) ?_
      (repeat refine gp_gc [16] od_Se_setUp rfl rfl ?_)
      refine sp_Gp_markAt (d := d + 4) hM rfl (by omega) ?_
      (repeat refine gp_gc [16] od_Se_setUp rfl rfl ?_)
      refine And.intro ii ?_
      rw [ci, gv_a66]
      (repeat refine gp_gc [16] od_Se_setUp rfl rfl ?_)
      refine And.intro ii ?_
      rw [ci, ra]
      (repeat refine gp_gc [16] od_Se_setUp rfl rfl ?_)
      refine And.intro im ⟨_, rfl, ?_⟩
      rw [cm]
      (repeat refine gp_gc [16] od_Se_setUp rfl rfl ?_)
      refine sp_Se_takingsOf (d := d + 2) (w := gw W 66 i (nI (ms i))) hm hms (by rw [gX_mk Xa hms]; exact hk _ hms) (fun a b c ha hb hc => ?_)
      have e0 : gw W 66 i (nI (ms i)) (gp_ma m) = w (gp_ma m) := gX_ma (j := 0) Xa hm (by decide)
      have eS : gc_see (gw W 66 i (nI (ms i))) m (ms i) ↔ gc_see w m (ms i) := by
        unfold gc_see
        rw [e0, gX_mk Xa hms, Xa 1 (by decide) (by decide) (by decide) (by decide), gc_left_eq (gX_mk Xa hms) (Xa 3 (by decide) (by decide) (by decide) (by decide))]
      have eA : a = gc_A w m ms i 1 := by
        rw [Bool.eq_iff_iff, ha, eS, e0, gX_mk Xa hms]
        unfold gc_A
        rw [if_pos rfl, Bool.and_eq_true, decide_eq_true_iff, decide_eq_true_iff]
      have eB : b = gc_A w m ms i 2 := by
        rw [Bool.eq_iff_iff, hb, eS, gX_mk Xa hms]
        unfold gc_A
        rw [if_neg (by decide), Bool.and_eq_true, decide_eq_true_iff, decide_eq_true_iff]
      have eC : c = gc_A w m ms i 3 := by
        rw [Bool.eq_iff_iff, hc, eS, gX_mk Xa hms]
        unfold gc_A
        rw [if_neg (by decide), Bool.and_eq_true, decide_eq_true_iff, decide_eq_true_iff]
      subst eA eB eC
      (repeat refine gp_gc [16] od_Se_setUp rfl rfl ?_)
      refine And.intro ii ?_
      rw [ci, gv_a67]
      have Xb : gX w (gw (gw W 66 i (nI (ms i))) 67 i (gc_tv (gc_A w m ms i 1) (gc_A w m ms i 2) (gc_A w m ms i 3))) := gX_w Xa (by decide)
      have rb : gw (gw W 66 i (nI (ms i))) 67 i (gc_tv (gc_A w m ms i 1) (gc_A w m ms i 2) (gc_A w m ms i 3)) 66 i = nI (ms i) := ra
      (repeat refine gp_gc [16] od_Se_setUp rfl rfl ?_)
      refine And.intro ii ?_
      rw [ci, rb]
      (repeat refine gp_gc [16] od_Se_setUp rfl rfl ?_)
      have eR : gz_R ms (fun _ => 1) i ||| Int32.ofInt 1 <<< (nI (ms i) &&& 31) = gz_R ms (fun _ => 1) (i + 1) := (gz_R1 ms i).symm
      rw [eR]
      refine sp_Se_priceAll (d := d) (w := gw (gw W 66 i (nI (ms i))) 67 i (gc_tv (gc_A w m ms i 1) (gc_A w m ms i 2) (gc_A w m ms i 3))) (mi := ms i) (PL := PL) hm rfl (by omega) rb hms (by rw [gX_mk Xb hms]; exact hk _ hms) (by rw [show gw (gw W 66 i (nI (ms i))) 67 i (gc_tv (gc_A w m ms i 1) (gc_A w m ms i 2) (gc_A w m ms i 3)) (gp_ma m) = w (gp_ma m) from gX_ma (j := 0) Xb hm (by decide)]; exact en) hPL (gc_prs_eq (gX_ma Xb hm (by decide)) (gX_ma Xb hm (by decide)) (gX_ma Xb hm (by decide)) (gX_ma Xb hm (by decide)) _ _ hp) (fun W2 hV l68 n68 => ?_)
      (repeat refine gp_gc [16] od_Se_setUp rfl rfl ?_)
      rw [inc]
      have hX2 : gX w W2 := gX_t Xb (gX_V hV)
      refine ih (i + 1) W2 (by omega) hX2 ?_ ?_ ?_ ?_
      · rw [hV 65 (by decide) (by decide) (by decide) (by decide)]; exact e8
      · intro j hj
        rw [hV 66 (by decide) (by decide) (by decide) (by decide)]
        by_cases c : j = i
        · rw [c]; exact rb
        · show gw W 66 i (nI (ms i)) 66 j = _
          rw [gw_at, if_neg c]
          exact h6 j (by omega)
      · intro j hj
        rw [hV 67 (by decide) (by decide) (by decide) (by decide), gw_at]
        by_cases c : j = i
        · rw [if_pos c, c]
        · rw [if_neg c]
          exact h7 j (by omega)
      · intro x hx
        by_cases c : x < 6 * i
        · rw [l68 x c]
          exact h68 x c
        · have e : x = 6 * i + (x - 6 * i) := by omega
          have h1 := n68 (x - 6 * i) (by omega)
          rw [← e] at h1
          rw [h1, ← (gc_P_e w ms PL x).1]
          have d1 : x / 6 = i := by omega
          have d2 : x % 6 = x - 6 * i := by omega
          rw [d1, d2]
          have eF : gc_Fm (gw (gw W 66 i (nI (ms i))) 67 i (gc_tv (gc_A w m ms i 1) (gc_A w m ms i 2) (gc_A w m ms i 3))) (ms i) i = gc_Fm w (ms i) i := by
            funext t tw
            unfold gc_Fm gc_wear
            rw [gX_mk Xb hms, Xb 1 (by decide) (by decide) (by decide) (by decide), gc_left_eq (gX_mk Xb hms) (Xb 3 (by decide) (by decide) (by decide) (by decide))]
          rw [eF]
  (repeat refine gp_gc [16] od_Se_setUp rfl rfl ?_)
  have e8 : (if 10 < len then 10 else len) = nI n := by rw [el]; exact if_neg (nI_nlt (a := 10) hn (by decide))
  refine loop n 0 (gw w 65 8 (if 10 < len then 10 else len)) (by omega) (gX_w (gX_r w) (by decide)) e8 (fun j hj => absurd hj (by omega)) (fun j hj => absurd hj (by omega)) (fun j hj => absurd hj (by omega))
end

end
