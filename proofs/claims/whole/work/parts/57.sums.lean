section
variable {l : Launch} {G : gp_G} {d : Nat} {w : Nat → Nat → Int32} {u : Int64 × (Nat → Int64)} {q : Nat → Nat} {K : Option Value → gp_H → Prop}
/-! ===== the class's sums: what a line comes to ===== -/
theorem gs_len {l : Launch} {G : gp_G} {d : Nat} {M : gp_M} {K : Option Value → gp_H → Prop} {k : gp_K} {pc : Nat} {ls : List (Option Value)} {r : List Value} {V : gp_H} {cs ss a n : Nat} {f : Nat → Int32} (hV : gp_nth V a = some (.inl (0, n, .inl f))) (h : k (pc + 1) ls (.int (Int32.ofNat n) :: r) V cs ss) : gp_step l G d M K k .arraylength 1 pc ls (.ref a :: r) V cs ss := by
  simp only [gp_step, gp_ln, gp_an, hV, Nat.beq_refl]
  exact h
def gU (w W : Nat → Nat → Int32) : Prop := ∀ b, b ≠ 52 → b ≠ 54 → W b = w b
theorem gU_r (w : Nat → Nat → Int32) : gU w w := fun _ _ _ => rfl
theorem gU_t {w W X : Nat → Nat → Int32} (h1 : gU w W) (h2 : gU W X) : gU w X := fun b a c => (h2 b a c).trans (h1 b a c)
theorem gU_w {w W : Nat → Nat → Int32} {a k : Nat} {x : Int32} (h : gU w W) (ha : a = 52 ∨ a = 54) : gU w (gw W a k x) := fun b h1 h2 => by
  rw [gw_ne (by rcases ha with rfl | rfl <;> assumption)]
  exact h b h1 h2
theorem gU_R {w W : Nat → Nat → Int32} (h : gU w W) : gs_R w W :=
  ⟨fun b hb _ _ => h b (fun z => by rw [z] at hb; exact absurd hb (by decide)) (fun z => by rw [z] at hb; exact absurd hb (by decide)), fun _ _ => by rw [h 95 (by decide) (by decide)], by rw [h 83 (by decide) (by decide)]⟩
theorem gp_ma_7 {P : Nat → Prop} (h0 : P 22) (h1 : P 27) (h2 : P 32) (h3 : P 37) (h4 : P 42) (h5 : P 47) (h6 : P 60) {m : Nat} (hm : m < 7) : P (gp_ma m) := by
  rcases (show m = 0 ∨ m = 1 ∨ m = 2 ∨ m = 3 ∨ m = 4 ∨ m = 5 ∨ m = 6 by omega) with rfl | rfl | rfl | rfl | rfl | rfl | rfl <;> assumption
theorem gp_ma_b {m : Nat} (hm : m < 7) : ∀ j, j ≤ 4 → gs_b (gp_ma m + j) = false ∧ gp_ma m + j ≠ 83 ∧ gp_ma m + j ≠ 95 ∧ 21 < gp_ma m + j ∧ gp_ma m + j < 65 ∧ gp_ma m + j ≠ 52 ∧ gp_ma m + j ≠ 54 :=
  gp_ma_7 (P := fun a => ∀ j, j ≤ 4 → gs_b (a + j) = false ∧ a + j ≠ 83 ∧ a + j ≠ 95 ∧ 21 < a + j ∧ a + j < 65 ∧ a + j ≠ 52 ∧ a + j ≠ 54) (by decide) (by decide) (by decide) (by decide) (by decide) (by decide) (by decide) hm
theorem gs_ma {w W : Nat → Nat → Int32} (h : gs_R w W) {m j : Nat} (hm : m < 7) (hj : j ≤ 4) : W (gp_ma m + j) = w (gp_ma m + j) := by
  have b := gp_ma_b hm j hj
  exact h.1 _ b.1 b.2.1 b.2.2.1
def gc_oc (op : Nat) : Int32 := if op = 0 then 0 else if op < 14 then 1 else nI (op - 12)
/-- the steps of a line, as the class keeps them -/
def gc_seg (f : Nat → Int32) : Nat → gf_L → Prop
  | _, [] => True
  | i, (op, v) :: L => f i &&& 15 = gc_oc op ∧ (op = 0 ∨ op = 17 → f i >>> (4 &&& 31) = v) ∧ (1 ≤ op → op < 14 → f i >>> (4 &&& 31) = nI (op - 1)) ∧ op < 24 ∧ gc_seg f (i + 1) L
set_option maxRecDepth 100000 in
theorem sp_Su_join {V : gp_H} {x a b : Int32} {op : Nat} (eo : x = nI (op - 12)) (ho : op = 14 ∨ op = 15 ∨ op = 16 ∨ op = 18 ∨ op = 19 ∨ op = 20 ∨ op = 22 ∨ op = 23) (h : K (some (.int (gf_both op a b))) V) : gp_Cal l G d m_Su_join [.int x, .int a, .int b] V K := by
  refine gp_enter od_Su_join rfl ?_
  subst eo
  rcases ho with rfl | rfl | rfl | rfl | rfl | rfl | rfl | rfl
  all_goals
    (repeat refine gp_gc [] od_Su_join rfl rfl ?_)
    refine And.intro ?_ (And.intro (by decide) (And.intro ?_ (And.intro ?_ (And.intro ?_ (And.intro ?_ (And.intro ?_ (And.intro ?_ (And.intro ?_ (And.intro ?_ (And.intro ?_ trivial))))))))))
    all_goals first | exact fun c => absurd c (by decide) | intro _
    (repeat refine gp_gc [] od_Su_join rfl rfl ?_)
  · exact h
  · exact h
  · exact h
  · by_cases c : a < b
    · have h : K (some (.int (if a < b then 1 else 0))) V := h
      rw [if_pos c] at h
      refine gb_ge_f' c ?_
      (repeat refine gp_gc [] od_Su_join rfl rfl ?_)
      exact h
    · have h : K (some (.int (if a < b then 1 else 0))) V := h
      rw [if_neg c] at h
      refine gb_ge_t' c ?_
      (repeat refine gp_gc [] od_Su_join rfl rfl ?_)
      exact h
  · by_cases c : a = b
    · have h : K (some (.int (if a = b then 1 else 0))) V := h
      rw [if_pos c] at h
      refine gb_ne_f c ?_
      (repeat refine gp_gc [] od_Su_join rfl rfl ?_)
      exact h
    · have h : K (some (.int (if a = b then 1 else 0))) V := h
      rw [if_neg c] at h
      refine gb_ne_t c ?_
      (repeat refine gp_gc [] od_Su_join rfl rfl ?_)
      exact h
  · by_cases c : b < a
    · have h : K (some (.int (if b < a then 1 else 0))) V := h
      rw [if_pos c] at h
      refine gb_le_f' c ?_
      (repeat refine gp_gc [] od_Su_join rfl rfl ?_)
      exact h
    · have h : K (some (.int (if b < a then 1 else 0))) V := h
      rw [if_neg c] at h
      refine gb_le_t' c ?_
      (repeat refine gp_gc [] od_Su_join rfl rfl ?_)
      exact h
  · exact h
  · exact h
set_option maxRecDepth 100000 in
theorem sp_Su_step {o x v : Int32} {op : Nat} {F : Nat → Int32} {s s' : List Int32} (ho : o = gc_oc op) (hx : op = 0 ∨ op = 17 → x = v) (hx2 : 1 ≤ op → op < 14 → x = nI (op - 1)) (h24 : op < 24) (hF : ∀ j, j < 13 → F (j + 1) = w 53 j) (ev : gf_ev1 F (op, v) s = some s') (hs : op < 14 → s.length < 64) (hs2 : s.length ≤ 64) (et : w 52 2 = nI s.length) (hp : gf_pile (w 54) s) (h : ∀ W, gU w W → W 52 2 = nI s'.length → gf_pile (W 54) s' → K none (gv W u q)) : gp_Cal l G (d + 1) m_Su_step [.ref 52, .int o, .int x] (gv w u q) K := by
  refine gp_enter od_Su_step rfl ?_
  by_cases b1 : op < 14
  · have b1' := hs b1
    have ev1 : gf_ev1 F (op, v) s = some ((if op = 0 then v else F op) :: s) := if_pos b1
    rw [ev1] at ev
    have ev : s' = (if op = 0 then v else F op) :: s := (Option.some.inj ev).symm
    have i1 : vp_in (w 52 2) 64 := by rw [et]; exact vp_in_nI b1' (by decide)
    have cs : (w 52 2).toNatClampNeg = s.length := by rw [et]; exact nI_clamp (by omega)
    have fin : ∀ z : Int32, z = (if op = 0 then v else F op) → K none (gv (gw (gw w 54 (w 52 2).toNatClampNeg z) 52 2 (w 52 2 + 1)) u q) := by
      intro z ez
      refine h _ (gU_w (gU_w (gU_r w) (Or.inr rfl)) (Or.inl rfl)) ?_ ?_
      · rw [ev]
        show w 52 2 + 1 = nI (s.length + 1)
        rw [et]
        exact nI_1 _
      · rw [ev, ← ez]
        show gf_pile (upd (w 54) (w 52 2).toNatClampNeg z) (z :: s)
        exact gf_pile_top cs.symm hp
    have go : ∀ kk : Int32, (op = 0 ∨ kk = 1) → gp_Go l G (d + 1) m_Su_step K 33 [some (.ref 52), some (.int o), some (.int x), some (.int kk)] [] (gv w u q) 0 0 := by
      intro kk hkk
      refine gp_go od_Su_step rfl ?_
      (repeat refine gp_gc [33] od_Su_step rfl rfl ?_)
      by_cases b2 : op = 0
      · refine gb1_ne_f (by rw [ho, b2]; rfl) ?_
        (repeat refine gp_gc [33] od_Su_step rfl rfl ?_)
        refine And.intro i1 ?_
        (repeat refine gp_gc [33] od_Su_step rfl rfl ?_)
        exact fin _ (by rw [if_pos b2]; exact hx (Or.inl b2))
      · have e1 : x = nI (op - 1) := hx2 (by omega) b1
        have hkk := hkk.resolve_left b2
        refine gb1_ne_t (by rw [ho, gc_oc, if_neg b2, if_pos b1]; decide) ?_
        (repeat refine gp_gc [33] od_Su_step rfl rfl ?_)
        refine gb1_eq_f (by rw [hkk]; decide) ?_
        (repeat refine gp_gc [33] od_Su_step rfl rfl ?_)
        refine And.intro (by rw [e1]; exact vp_in_nI (by omega) (by decide)) ?_
        (repeat refine gp_gc [33] od_Su_step rfl rfl ?_)
        refine And.intro i1 ?_
        (repeat refine gp_gc [33] od_Su_step rfl rfl ?_)
        refine fin _ ?_
        rw [if_neg b2, e1, nI_clamp (by omega), ← hF (op - 1) (by omega)]
        congr 1
        omega
    have ol : ¬ (1 : Int32) < o := by
      rw [ho, gc_oc]
      by_cases b2 : op = 0
      · rw [if_pos b2]; decide
      · rw [if_neg b2, if_pos b1]; decide
    (repeat refine gp_gc [33] od_Su_step rfl rfl ?_)
    refine gb_gt_f ol ?_
    (repeat refine gp_gc [33] od_Su_step rfl rfl ?_)
    refine gb_ge_f (by rw [et]; exact nI_ge (b := 64) b1' (by decide)) ?_
    (repeat refine gp_gc [33] od_Su_step rfl rfl ?_)
    by_cases b2 : op = 0
    · by_cases c1 : x < 0
      · refine gb1_lt_t c1 ?_
        (repeat refine gp_gc [33] od_Su_step rfl rfl ?_)
        exact go _ (Or.inl b2)
      · refine gb1_lt_f c1 ?_
        (repeat refine gp_gc [33] od_Su_step rfl rfl ?_)
        by_cases c2 : 13 ≤ x
        · refine gb_ge_t c2 ?_
          (repeat refine gp_gc [33] od_Su_step rfl rfl ?_)
          exact go _ (Or.inl b2)
        · refine gb_ge_f c2 ?_
          (repeat refine gp_gc [33] od_Su_step rfl rfl ?_)
          exact go _ (Or.inl b2)
    · have e1 : x = nI (op - 1) := hx2 (by omega) b1
      refine gb1_lt_f (by rw [e1]; exact nI_pos (by omega)) ?_
      (repeat refine gp_gc [33] od_Su_step rfl rfl ?_)
      refine gb_ge_f (by rw [e1]; exact nI_ge (b := 13) (by omega) (by decide)) ?_
      (repeat refine gp_gc [33] od_Su_step rfl rfl ?_)
      exact go _ (Or.inr rfl)
  have eo : o = nI (op - 12) := by rw [ho, gc_oc, if_neg (by omega), if_neg b1]
  (repeat refine gp_gc [33] od_Su_step rfl rfl ?_)
  refine gb_gt_t (by rw [eo]; exact nI_lt (a := 1) (by omega) (by omega)) ?_
  (repeat refine gp_gc [33] od_Su_step rfl rfl ?_)
  by_cases b2 : op = 17
  · subst b2
    refine gb_ne_f (by rw [eo]; rfl) ?_
    (repeat refine gp_gc [33] od_Su_step rfl rfl ?_)
    cases s with
    | nil => simp [gf_ev1] at ev
    | cons y t =>
      have hv : ¬ v = 0 := by
        intro hv
        simp [gf_ev1, hv] at ev
      have ev1 : gf_ev1 F (17, v) (y :: t) = some (y / v :: t) := by simp [gf_ev1, hv]
      rw [ev1] at ev
      have ev : s' = y / v :: t := (Option.some.inj ev).symm
      obtain rfl := hx (Or.inr rfl)
      simp only [List.length_cons] at et hs2
      have e3 : w 52 2 - 1 = nI t.length := by rw [et]; exact nI_pred _
      have c3 : (w 52 2 - Int32.ofInt 1).toNatClampNeg = t.length := by
        show (w 52 2 - 1).toNatClampNeg = _
        rw [e3]; exact nI_clamp (by omega)
      have i1 : vp_in (w 52 2 - 1) 64 := by rw [e3]; exact vp_in_nI (by omega) (by decide)
      refine gb1_le_f (by rw [et]; exact nI_nle (by omega) (by omega)) ?_
      (repeat refine gp_gc [33] od_Su_step rfl rfl ?_)
      refine gb1_eq_f hv ?_
      (repeat refine gp_gc [33] od_Su_step rfl rfl ?_)
      refine And.intro i1 ?_
      (repeat refine gp_gc [33] od_Su_step rfl rfl ?_)
      refine And.intro hv ?_
      (repeat refine gp_gc [33] od_Su_step rfl rfl ?_)
      refine And.intro i1 ?_
      (repeat refine gp_gc [33] od_Su_step rfl rfl ?_)
      rw [c3]
      have hy : w 54 t.length = y := hp.1
      refine h (gw w 54 t.length (w 54 t.length / x)) (gU_w (gU_r w) (Or.inr rfl)) ?_ ?_
      · rw [ev]
        exact et
      · rw [ev, hy]
        exact gf_pile_top rfl hp.2
  refine gb_ne_t (by rw [eo]; exact fun z => b2 (by have := (nI_eq (b := 5) (by omega) (by decide)).mp z; omega)) ?_
  (repeat refine gp_gc [33] od_Su_step rfl rfl ?_)
  by_cases b3 : op = 21
  · subst b3
    refine gb_ne_f (by rw [eo]; rfl) ?_
    (repeat refine gp_gc [33] od_Su_step rfl rfl ?_)
    cases s with
    | nil => simp [gf_ev1] at ev
    | cons y t =>
      have ev1 : gf_ev1 F (21, v) (y :: t) = some ((1 - y) :: t) := by simp [gf_ev1]
      rw [ev1] at ev
      have ev : s' = (1 - y) :: t := (Option.some.inj ev).symm
      simp only [List.length_cons] at et hs2
      have e3 : w 52 2 - 1 = nI t.length := by rw [et]; exact nI_pred _
      have c3 : (w 52 2 - Int32.ofInt 1).toNatClampNeg = t.length := by
        show (w 52 2 - 1).toNatClampNeg = _
        rw [e3]; exact nI_clamp (by omega)
      have i1 : vp_in (w 52 2 - 1) 64 := by rw [e3]; exact vp_in_nI (by omega) (by decide)
      refine gb1_le_f (by rw [et]; exact nI_nle (by omega) (by omega)) ?_
      (repeat refine gp_gc [33] od_Su_step rfl rfl ?_)
      refine And.intro i1 ?_
      (repeat refine gp_gc [33] od_Su_step rfl rfl ?_)
      refine And.intro i1 ?_
      (repeat refine gp_gc [33] od_Su_step rfl rfl ?_)
      rw [c3]
      have hy : w 54 t.length = y := hp.1
      refine h (gw w 54 t.length (1 - w 54 t.length)) (gU_w (gU_r w) (Or.inr rfl)) ?_ ?_
      · rw [ev]
        exact et
      · rw [ev, hy]
        exact gf_pile_top rfl hp.2
  refine gb_ne_t (by rw [eo]; exact fun z => b3 (by have := (nI_eq (b := 9) (by omega) (by decide)).mp z; omega)) ?_
  (repeat refine gp_gc [33] od_Su_step rfl rfl ?_)
  cases s with
  | nil => simp [gf_ev1, b1, b2, b3] at ev
  | cons y t =>
    cases t with
    | nil => simp [gf_ev1, b1, b2, b3] at ev
    | cons z t =>
      have ev1 : gf_ev1 F (op, v) (y :: z :: t) = some (gf_both op z y :: t) := by simp [gf_ev1, b1, b2, b3]
      rw [ev1] at ev
      have ev : s' = gf_both op z y :: t := (Option.some.inj ev).symm
      simp only [List.length_cons] at et hs2
      have e4 : w 52 2 - 1 = nI (t.length + 1) := by rw [et]; exact nI_pred _
      have e3 : w 52 2 - 1 - 1 = nI t.length := by rw [e4]; exact nI_pred _
      have c4 : (w 52 2 - Int32.ofInt 1).toNatClampNeg = t.length + 1 := by
        show (w 52 2 - 1).toNatClampNeg = _
        rw [e4]; exact nI_clamp (by omega)
      have c3 : (w 52 2 - Int32.ofInt 1 - Int32.ofInt 1).toNatClampNeg = t.length := by
        show (w 52 2 - 1 - 1).toNatClampNeg = _
        rw [e3]; exact nI_clamp (by omega)
      have i2 : vp_in (w 52 2 - 1) 64 := by rw [e4]; exact vp_in_nI (by omega) (by decide)
      have i1 : vp_in (w 52 2 - 1 - 1) 64 := by rw [e3]; exact vp_in_nI (by omega) (by decide)
      refine gb_le_f (by rw [et]; exact nI_ge (a := 1) (by omega) (by omega)) ?_
      (repeat refine gp_gc [33] od_Su_step rfl rfl ?_)
      refine And.intro (show vp_in (w 52 2 - 1 - 1) 64 from i1) ?_
      (repeat refine gp_gc [33] od_Su_step rfl rfl ?_)
      refine And.intro (show vp_in (w 52 2 - 1) 64 from i2) ?_
      (repeat refine gp_gc [33] od_Su_step rfl rfl ?_)
      refine sp_Su_join (d := d) (op := op) eo (by omega) ?_
      (repeat refine gp_gc [33] od_Su_step rfl rfl ?_)
      refine And.intro (show vp_in (w 52 2 - 1 - 1) 64 from i1) ?_
      (repeat refine gp_gc [33] od_Su_step rfl rfl ?_)
      have hz : w 54 t.length = z := hp.2.1
      have hy : w 54 (t.length + 1) = y := hp.1
      refine h (gw (gw w 52 2 (w 52 2 - 1)) 54 (w 52 2 - Int32.ofInt 1 - Int32.ofInt 1).toNatClampNeg (gf_both op (w 54 (w 52 2 - Int32.ofInt 1 - Int32.ofInt 1).toNatClampNeg) (w 54 (w 52 2 - Int32.ofInt 1).toNatClampNeg))) (gU_w (gU_w (gU_r w) (Or.inl rfl)) (Or.inr rfl)) ?_ ?_
      · rw [ev]
        exact e4
      · rw [ev, c3, c4, hy, hz]
        exact gf_pile_top rfl hp.2.2

end
