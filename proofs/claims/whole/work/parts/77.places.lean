section
variable {l : Launch} {G : gp_G} {d : Nat} {w : Nat → Nat → Int32} {u : Int64 × (Nat → Int64)} {q : Nat → Nat} {K : Option Value → gp_H → Prop}
/-! ===== the class's sky: places ===== -/
theorem gq_root : ∀ D : Nat, ∃ r, r * r ≤ D ∧ D < (r + 1) * (r + 1)
  | 0 => ⟨0, by decide, by decide⟩
  | D + 1 => by
    obtain ⟨r, h1, h2⟩ := gq_root D
    by_cases c : D + 1 < (r + 1) * (r + 1)
    · exact ⟨r, by omega, c⟩
    · refine ⟨r + 1, by omega, ?_⟩
      have : (r + 1 + 1) * (r + 1 + 1) = (r + 1) * (r + 1) + 2 * (r + 1) + 1 := by
        rw [Nat.add_mul, Nat.mul_add]
        omega
      omega
theorem gq_neg {e : Nat} (he : e ≤ 55) : (-(nI e)).toInt = -(e : Int) := by
  rw [Int32.toInt_neg, nI_toInt (by omega)]
  exact Int.bmod_eq_of_le (by omega) (by omega)
theorem gq_about {D f e : Nat} (hD : D < 10000) (hf : f ≤ 55) (he : e ≤ 55) : (∃ r D' : Nat, nI D = nI D' ∧ D' < 10000 ∧ r * r ≤ D' ∧ D' < (r + 1) * (r + 1) ∧ -(nI e) ≤ nI r - nI f ∧ nI r - nI f ≤ nI e) ↔ ((f - e) * (f - e) ≤ D ∧ D < (f + e + 1) * (f + e + 1)) := by
  have r100 : ∀ r : Nat, r * r ≤ D → r < 100 := fun r h => by
    rcases Nat.lt_or_ge r 100 with c | c
    · exact c
    · have := Nat.mul_le_mul c c
      omega
  have key : ∀ r : Nat, r < 100 → ((-(nI e) ≤ nI r - nI f ∧ nI r - nI f ≤ nI e) ↔ (f ≤ r + e ∧ r ≤ f + e)) := by
    intro r hr
    rw [Int32.le_iff_toInt_le, Int32.le_iff_toInt_le, gq_neg he, pk_sub_toInt (by omega) (by omega), nI_toInt (by omega)]
    omega
  constructor
  · intro ⟨r, D', e1, hD', h1, h2, h3⟩
    have e1 := (nI_eq (by omega) (by omega)).mp e1
    subst e1
    have h3 := (key r (r100 r h1)).mp h3
    constructor
    · exact Nat.le_trans (Nat.mul_le_mul (show f - e ≤ r by omega) (show f - e ≤ r by omega)) h1
    · exact Nat.lt_of_lt_of_le h2 (Nat.mul_le_mul (show r + 1 ≤ f + e + 1 by omega) (show r + 1 ≤ f + e + 1 by omega))
  · intro ⟨h1, h2⟩
    obtain ⟨r, g1, g2⟩ := gq_root D
    refine ⟨r, D, rfl, hD, g1, g2, (key r (r100 r g1)).mpr ⟨?_, ?_⟩⟩
    · rcases Nat.lt_or_ge (r + e) f with c | c
      · have := Nat.mul_le_mul (show r + 1 ≤ f - e by omega) (show r + 1 ≤ f - e by omega)
        omega
      · exact c
    · rcases Nat.lt_or_ge (f + e) r with c | c
      · have := Nat.mul_le_mul (show f + e + 1 ≤ r by omega) (show f + e + 1 ≤ r by omega)
        omega
      · exact c
theorem gq_sq {x a : Nat} (hx : x < 40) (ha : a < 40) : ∃ D : Nat, D ≤ 1521 ∧ (nI x - nI a) * (nI x - nI a) = nI D := by
  by_cases c : a ≤ x
  · refine ⟨(x - a) * (x - a), Nat.mul_le_mul (show x - a ≤ 39 by omega) (show x - a ≤ 39 by omega), ?_⟩
    rw [pk_sub c, pk_mul]
  · refine ⟨(a - x) * (a - x), Nat.mul_le_mul (show a - x ≤ 39 by omega) (show a - x ≤ 39 by omega), ?_⟩
    have e : nI x - nI a = -(nI (a - x)) := by
      rw [← pk_sub (show x ≤ a by omega), Int32.neg_sub]
    rw [e, Int32.neg_mul_neg, pk_mul]
section
variable {n : Nat}
theorem gJ_sq (Js : gJ_s w n) {c b : Nat} (hc : c < 1600) (hb : b < n) : ∃ D : Nat, D < 10000 ∧ (nI (c % 40) - w 132 b) * (nI (c % 40) - w 132 b) + (nI (c / 40) - w 133 b) * (nI (c / 40) - w 133 b) = nI D := by
  obtain ⟨⟨a1, h1, e1⟩, a2, h2, e2⟩ := Js.2.2.2.2.1 b hb
  obtain ⟨D1, l1, q1⟩ := gq_sq (x := c % 40) (a := a1) (by omega) h1
  obtain ⟨D2, l2, q2⟩ := gq_sq (x := c / 40) (a := a2) (by omega) h2
  exact ⟨D1 + D2, by omega, by rw [e1, e2, q1, q2, nI_add]⟩
set_option maxRecDepth 100000 in
theorem sp_Sk_isAbout {V : gp_H} {sq far doubt : Int32} {D f e : Nat} (es : sq = nI D) (ef : far = nI f) (ee : doubt = nI e) (hD : D < 10000) (hf : f ≤ 55) (he : e ≤ 55) (h1 : (f - e) * (f - e) ≤ D → D < (f + e + 1) * (f + e + 1) → K (some (.int 1)) V) (h0 : ¬ ((f - e) * (f - e) ≤ D ∧ D < (f + e + 1) * (f + e + 1)) → K (some (.int 0)) V) : gp_Cal l G (d + 1) m_Sk_isAbout [.int sq, .int far, .int doubt] V K := by
  subst es ef ee
  have l1 : (f - e) * (f - e) ≤ 55 * 55 := Nat.mul_le_mul (by omega) (by omega)
  have l2 : (f + e + 1) * (f + e + 1) ≤ 111 * 111 := Nat.mul_le_mul (by omega) (by omega)
  have em : (if Int32.ofInt 0 < nI f - nI e then nI f - nI e else Int32.ofInt 0) = nI (f - e) := by
    have e0 : (Int32.ofInt 0).toInt = 0 := by decide
    have et := pk_sub_toInt (a := f) (b := e) (by omega) (by omega)
    by_cases c : e < f
    · rw [if_pos (by rw [Int32.lt_iff_toInt_lt, et, e0]; omega), pk_sub (by omega)]
    · rw [if_neg (by rw [Int32.lt_iff_toInt_lt, et, e0]; omega), show f - e = 0 by omega]
      rfl
  have ea : nI f + nI e + Int32.ofInt 1 = nI (f + e + 1) := by rw [nI_add]; exact nI_1 _
  refine gp_enter od_Sk_isAbout rfl ?_
  (repeat refine gp_gc [] od_Sk_isAbout rfl rfl ?_)
  rw [em, ea]
  (repeat refine gp_gc [] od_Sk_isAbout rfl rfl ?_)
  rw [pk_mul]
  by_cases c1 : D < (f - e) * (f - e)
  · refine gb_lt_t (nI_lt c1 (by omega)) ?_
    (repeat refine gp_gc [] od_Sk_isAbout rfl rfl ?_)
    exact And.intro (Or.inl rfl) (h0 (fun z => by omega))
  refine gb_lt_f (nI_nlt (by omega) (by omega)) ?_
  (repeat refine gp_gc [] od_Sk_isAbout rfl rfl ?_)
  rw [pk_mul]
  by_cases c2 : D < (f + e + 1) * (f + e + 1)
  · refine gb_ge_f (nI_ge c2 (by omega)) ?_
    (repeat refine gp_gc [] od_Sk_isAbout rfl rfl ?_)
    exact And.intro (Or.inr rfl) (h1 (by omega) c2)
  · refine gb_ge_t (nI_le (by omega) (by omega)) ?_
    (repeat refine gp_gc [] od_Sk_isAbout rfl rfl ?_)
    exact And.intro (Or.inl rfl) (h0 (fun z => c2 z.2))
set_option maxRecDepth 100000 in
theorem sp_Sk_isPlace {x y doubt : Int32} {c e : Nat} (Js : gJ_s w n) (ex : x = nI (c % 40)) (ey : y = nI (c / 40)) (hc : c < 1600) (ee : doubt = nI e) (he : e ≤ 55) (h1 : (∀ b, b < n → gf_plC w doubt c b) → K (some (.int 1)) (gv w u q)) (h0 : ¬ (∀ b, b < n → gf_plC w doubt c b) → K (some (.int 0)) (gv w u q)) : gp_Cal l G (d + 2) m_Sk_isPlace [.ref 83, .int x, .int y, .int doubt] (gv w u q) K := by
  refine gp_enter od_Sk_isPlace rfl ?_
  subst ex ey ee
  have hn := Js.2.2.1
  have loop : ∀ (r j : Nat), j + r = n → (∀ b, b < j → gf_plC w (nI e) c b) → gp_Go l G (d + 2) m_Sk_isPlace K 3 [some (.ref 83), some (.int (nI (c % 40))), some (.int (nI (c / 40))), some (.int (nI e)), some (.int (nI j)), none, none, none] [] (gv w u q) 0 0 := by
    intro r
    induction r with
    | zero =>
      intro j hj hall
      have ej : j = n := by omega
      refine gp_go od_Sk_isPlace rfl ?_
      (repeat refine gp_gc [3] od_Sk_isPlace rfl rfl ?_)
      refine gb_ge_t (by rw [Js.1, ej]; exact Int32.le_refl _) ?_
      (repeat refine gp_gc [3] od_Sk_isPlace rfl rfl ?_)
      exact And.intro (Or.inr rfl) (h1 (by rw [ej] at hall; exact hall))
    | succ r ih =>
      intro j hj hall
      have inc : nI j + Int32.ofInt 1 = nI (j + 1) := gp_inc rfl
      have cj : (nI j).toNatClampNeg = j := nI_clamp (by omega)
      have ij : vp_in (nI j) 14 := vp_in_nI (by omega) (by decide)
      have jj := Js.2.2.2.1 j (by omega)
      obtain ⟨D, hD, eD⟩ := gJ_sq Js hc (show j < n by omega)
      obtain ⟨f, hf, ef⟩ := Js.2.2.2.2.2 j (by omega)
      have e90 : w 90 j = nI f := by rw [jj.2.2.2.2.2.2]; exact ef
      have eD2 : (nI (c % 40) - w 86 j) * (nI (c % 40) - w 86 j) + (nI (c / 40) - w 87 j) * (nI (c / 40) - w 87 j) = nI D := by rw [jj.2.2.1, jj.2.2.2.1]; exact eD
      have eC : gf_plC w (nI e) c j ↔ f = 0 ∨ ((f - e) * (f - e) ≤ D ∧ D < (f + e + 1) * (f + e + 1)) := by
        unfold gf_plC
        rw [eD, ef, gq_about hD hf he]
        have : nI f = 0 ↔ f = 0 := nI_eq (b := 0) (by omega) (by decide)
        rw [this]
      refine gp_go od_Sk_isPlace rfl ?_
      (repeat refine gp_gc [3] od_Sk_isPlace rfl rfl ?_)
      refine gb_ge_f (by rw [Js.1]; exact nI_ge (by omega) (by omega)) ?_
      (repeat refine gp_gc [3] od_Sk_isPlace rfl rfl ?_)
      refine And.intro ij ?_
      rw [cj]
      (repeat refine gp_gc [3] od_Sk_isPlace rfl rfl ?_)
      refine And.intro ij ?_
      rw [cj]
      (repeat refine gp_gc [3] od_Sk_isPlace rfl rfl ?_)
      rw [eD2]
      refine And.intro ij ?_
      rw [cj, e90]
      (repeat refine gp_gc [3] od_Sk_isPlace rfl rfl ?_)
      by_cases c0 : f = 0
      · refine gb1_eq_t (by rw [c0]; rfl) ?_
        (repeat refine gp_gc [3] od_Sk_isPlace rfl rfl ?_)
        rw [inc]
        refine gp_drop 5 (gp_drop 6 (gp_drop 7 ?_))
        exact ih (j + 1) (by omega) (lt_s hall (eC.mpr (Or.inl c0)))
      refine gb1_eq_f (nI_ne0 (by omega) (by omega)) ?_
      (repeat refine gp_gc [3] od_Sk_isPlace rfl rfl ?_)
      refine And.intro ij ?_
      rw [cj, e90]
      (repeat refine gp_gc [3] od_Sk_isPlace rfl rfl ?_)
      refine sp_Sk_isAbout (d := d) rfl rfl rfl hD hf he (fun b1 b2 => ?_) (fun b => ?_)
      · (repeat refine gp_gc [3] od_Sk_isPlace rfl rfl ?_)
        refine gb1_ne_t (by decide) ?_
        (repeat refine gp_gc [3] od_Sk_isPlace rfl rfl ?_)
        rw [inc]
        refine gp_drop 5 (gp_drop 6 (gp_drop 7 ?_))
        exact ih (j + 1) (by omega) (lt_s hall (eC.mpr (Or.inr ⟨b1, b2⟩)))
      · (repeat refine gp_gc [3] od_Sk_isPlace rfl rfl ?_)
        refine gb1_ne_f rfl ?_
        (repeat refine gp_gc [3] od_Sk_isPlace rfl rfl ?_)
        exact And.intro (Or.inl rfl) (h0 (fun z => (eC.mp (z j (by omega))).elim c0 b))
  (repeat refine gp_gc [3] od_Sk_isPlace rfl rfl ?_)
  exact loop n 0 (by omega) (fun b hb => absurd hb (by omega))
def gpR (w W : Nat → Nat → Int32) (s : Int32 × Int32) : Prop := (∀ b, b ≠ 83 → W b = w b) ∧ W 83 7 = w 83 7 ∧ W 83 11 = s.1 ∧ W 83 12 = s.2
theorem gpR_R {w W : Nat → Nat → Int32} {s : Int32 × Int32} (h : gpR w W s) : gs_R w W := ⟨fun b _ h83 _ => h.1 b h83, fun k _ => by rw [h.1 95 (by decide)], h.2.1⟩
set_option maxRecDepth 100000 in
theorem sp_Sk_countPlaces {doubt : Int32} {e : Nat} (Js : gJ_s w n) (ee : doubt = nI e) (he : e ≤ 55) (dc : ∀ c : Nat, Decidable (∀ b, b < n → gf_plC w doubt c b)) (h : ∀ s W, s = gp_it (gf_plS (fun c => ∀ b, b < n → gf_plC w doubt c b) dc) 0 1600 (0, -1) → gpR w W s → K none (gv W u q)) : gp_Cal l G (d + 3) m_Sk_countPlaces [.ref 83, .int doubt] (gv w u q) K := by
  refine gp_enter od_Sk_countPlaces rfl ?_
  have main : ∀ (F : Int32 × Int32) (_ : ∀ W, gpR w W F → K none (gv W u q)) (r c : Nat) (s : Int32 × Int32) (W : Nat → Nat → Int32), c + r = 1600 → gp_it (gf_plS (fun c => ∀ b, b < n → gf_plC w doubt c b) dc) c r s = F → gpR w W s → gp_Go l G (d + 3) m_Sk_countPlaces K 12 [some (.ref 83), some (.int doubt), some (.int (nI c))] [] (gv W u q) 0 0 := by
    intro F hF r
    induction r with
    | zero =>
      intro c s W hc hh hR
      have ec : c = 1600 := by omega
      subst ec
      have hh : s = F := hh
      refine gp_go od_Sk_countPlaces rfl ?_
      (repeat refine gp_gc [12] od_Sk_countPlaces rfl rfl ?_)
      refine gb_ge_t (by decide) ?_
      (repeat refine gp_gc [12] od_Sk_countPlaces rfl rfl ?_)
      exact hF W (by rw [← hh]; exact hR)
    | succ r ih =>
      intro c s W hc hh hR
      have inc : nI c + Int32.ofInt 1 = nI (c + 1) := gp_inc rfl
      have hh : gp_it (gf_plS (fun c => ∀ b, b < n → gf_plC w doubt c b) dc) (c + 1) r (gf_plS (fun c => ∀ b, b < n → gf_plC w doubt c b) dc c s) = F := hh
      have JsW := gJ_s_R (gpR_R hR) Js
      obtain ⟨r1, r2, r3, r4⟩ := hR
      have eC : (∀ b, b < n → gf_plC W doubt c b) ↔ ∀ b, b < n → gf_plC w doubt c b := by
        unfold gf_plC
        rw [r1 132 (by decide), r1 133 (by decide), r1 136 (by decide)]
      have q1 : nI c - nI c / (Int8.ofInt 40).toInt32 * (Int8.ofInt 40).toInt32 = nI (c % 40) := pk_rem (d := 40) (by omega) (by decide) (by decide)
      have q2 : nI c / (Int8.ofInt 40).toInt32 = nI (c / 40) := pk_div (d := 40) (by omega) (by decide) (by decide)
      refine gp_go od_Sk_countPlaces rfl ?_
      (repeat refine gp_gc [12] od_Sk_countPlaces rfl rfl ?_)
      refine gb_ge_f (nI_ge (b := 1600) (by omega) (by decide)) ?_
      (repeat refine gp_gc [12] od_Sk_countPlaces rfl rfl ?_)
      refine And.intro (by decide) ?_
      (repeat refine gp_gc [12] od_Sk_countPlaces rfl rfl ?_)
      refine And.intro (by decide) ?_
      (repeat refine gp_gc [12] od_Sk_countPlaces rfl rfl ?_)
      refine sp_Sk_isPlace (d := d) (w := W) (n := n) (c := c) (e := e) JsW q1 q2 (by omega) ee he (fun b => ?_) (fun b => ?_)
      · have b : ∀ b, b < n → gf_plC w doubt c b := eC.mp b
        have x1 : gf_plS (fun c => ∀ b, b < n → gf_plC w doubt c b) dc c s = (s.1 + 1, (if s.1 = 0 then nI c else s.2)) := @if_pos _ (dc c) b _ _ _
        rw [x1] at hh
        (repeat refine gp_gc [12] od_Sk_countPlaces rfl rfl ?_)
        refine gb1_eq_f (by decide) ?_
        (repeat refine gp_gc [12] od_Sk_countPlaces rfl rfl ?_)
        by_cases c0 : s.1 = 0
        · rw [if_pos c0] at hh
          refine gb1_ne_f (by rw [r3]; exact c0) ?_
          (repeat refine gp_gc [12] od_Sk_countPlaces rfl rfl ?_)
          rw [inc]
          exact ih (c + 1) (s.1 + 1, nI c) (gw (gw W 83 12 (nI c)) 83 11 (W 83 11 + 1)) (by omega) hh ⟨fun b hb => by rw [gw_ne hb, gw_ne hb]; exact r1 b hb, r2, by rw [← r3]; rfl, rfl⟩
        · rw [if_neg c0] at hh
          refine gb1_ne_t (by rw [r3]; exact c0) ?_
          (repeat refine gp_gc [12] od_Sk_countPlaces rfl rfl ?_)
          rw [inc]
          exact ih (c + 1) (s.1 + 1, s.2) (gw (gw W 83 12 (W 83 12)) 83 11 (W 83 11 + 1)) (by omega) hh ⟨fun b hb => by rw [gw_ne hb, gw_ne hb]; exact r1 b hb, r2, by rw [← r3]; rfl, r4⟩
      · have b : ¬ ∀ b, b < n → gf_plC w doubt c b := fun z => b (eC.mpr z)
        have x1 : gf_plS (fun c => ∀ b, b < n → gf_plC w doubt c b) dc c s = s := @if_neg _ (dc c) b _ _ _
        rw [x1] at hh
        (repeat refine gp_gc [12] od_Sk_countPlaces rfl rfl ?_)
        refine gb1_eq_t rfl ?_
        (repeat refine gp_gc [12] od_Sk_countPlaces rfl rfl ?_)
        rw [inc]
        exact ih (c + 1) s W (by omega) hh ⟨r1, r2, r3, r4⟩
  (repeat refine gp_gc [12] od_Sk_countPlaces rfl rfl ?_)
  exact main _ (fun W => h _ W rfl) 1600 0 (0, -1) (gw (gw w 83 11 0) 83 12 (-1)) (by omega) rfl ⟨fun b hb => by rw [gw_ne hb, gw_ne hb], rfl, rfl, rfl⟩
set_option maxRecDepth 100000 in
theorem sp_Gp_places {doubt what : Int32} (Js : gJ_s w n) (dc : ∀ c : Nat, Decidable (∀ b, b < n → gf_plC w doubt c b)) (h0 : ¬ ((0 ≤ doubt ∧ doubt ≤ 55) ∧ 0 ≤ what ∧ what ≤ 1) → K (some (.int (-1))) (gv w u q)) (h1 : (0 ≤ doubt ∧ doubt ≤ 55) ∧ 0 ≤ what ∧ what ≤ 1 → ∀ s : Int32 × Int32, s = gp_it (gf_plS (fun c => ∀ b, b < n → gf_plC w doubt c b) dc) 0 1600 (0, -1) → ∀ W, gs_R w W → K (some (.int (if what = 0 then s.1 else s.2))) (gv W u q)) : gp_Cal l G (d + 4) m_Gp_places [.ref 0, .int doubt, .int what] (gv w u q) K := by
  refine gp_enter od_Gp_places rfl ?_
  (repeat refine gp_gc [] od_Gp_places rfl rfl ?_)
  refine sp_Gp_within (fun a1 b1 => ?_) (fun n1 => ?_)
  rotate_left
  · repeat refine gp_gc [] od_Gp_places rfl rfl ?_
    first | refine And.intro (fun _ => ?_) (fun c => absurd rfl c) | refine And.intro (fun c => absurd rfl c) (fun _ => ?_)
    repeat refine gp_gc [] od_Gp_places rfl rfl ?_
    exact h0 (fun z => n1 z.1)
  repeat refine gp_gc [] od_Gp_places rfl rfl ?_
  first | refine And.intro (fun c => absurd c (by decide)) (fun _ => ?_) | refine And.intro (fun _ => ?_) (fun c => absurd c (by decide))
  repeat refine gp_gc [] od_Gp_places rfl rfl ?_
  refine sp_Gp_within (fun a2 b2 => ?_) (fun n1 => ?_)
  rotate_left
  · repeat refine gp_gc [] od_Gp_places rfl rfl ?_
    first | refine And.intro (fun _ => ?_) (fun c => absurd rfl c) | refine And.intro (fun c => absurd rfl c) (fun _ => ?_)
    repeat refine gp_gc [] od_Gp_places rfl rfl ?_
    exact h0 (fun z => n1 z.2)
  repeat refine gp_gc [] od_Gp_places rfl rfl ?_
  first | refine And.intro (fun c => absurd c (by decide)) (fun _ => ?_) | refine And.intro (fun _ => ?_) (fun c => absurd c (by decide))
  repeat refine gp_gc [] od_Gp_places rfl rfl ?_
  obtain ⟨e, he, ee⟩ := nI_of2 (n := 55) (M := 55) rfl (Int32.not_lt.mpr a1) b1
  refine sp_Sk_countPlaces (d := d) Js ee he dc (fun s W es hR => ?_)
  have h1 := h1 ⟨⟨a1, b1⟩, a2, b2⟩ s es W (gpR_R hR)
  obtain ⟨r1, r2, r3, r4⟩ := hR
  (repeat refine gp_gc [] od_Gp_places rfl rfl ?_)
  by_cases c0 : what = 0
  · rw [if_pos c0, ← r3] at h1
    refine gb1_ne_f c0 ?_
    (repeat refine gp_gc [] od_Gp_places rfl rfl ?_)
    exact h1
  · rw [if_neg c0, ← r4] at h1
    refine gb1_ne_t c0 ?_
    (repeat refine gp_gc [] od_Gp_places rfl rfl ?_)
    exact h1
end

end
