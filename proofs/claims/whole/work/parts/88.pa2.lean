section
variable {l : Launch} {G : gp_G} {d : Nat} {w : Nat → Nat → Int32} {u : Int64 × (Nat → Int64)} {q : Nat → Nat} {K : Option Value → gp_H → Prop}
/-! ===== the class's parser: units, parts, signs ===== -/
/-- a piece of the grammar, as the class reads it: from a good place, and behind a fault -/
def gpC (l : Launch) (G : gp_G) (u : Int64 × (Nat → Int64)) (q : Nat → Nat) (tp : Nat → Nat) (n t : Nat) (M : gp_M) (as : List Value) (lev : Nat) (r : Nat → gy) : Prop :=
  (∀ (W : Nat → Nat → Int32) (j c : Nat) (K : Option Value → gp_H → Prop), gpB W tp n t → gpO (q 6) t W j c → c ≤ j → (∀ W' j' L, r j = .inr (j', L) → gEF (q 6) W W' c → gpO (q 6) t W' j' (c + L.length) → gc_seg (W' (gp_ma (q 6) + 1)) c L → K none (gv W' u q)) → (∀ W' e p, r j = .inl (e, p) → gEF (q 6) W W' 0 → gpX (q 6) W' e (gx_sp tp n p) → K none (gv W' u q)) → gp_Cal l G lev M as (gv W u q) K) ∧
  (∀ (W : Nat → Nat → Int32) (e p : Nat) (K : Option Value → gp_H → Prop), gpB W tp n t → gpX (q 6) W e p → (∀ W', gEF (q 6) W W' 0 → gpX (q 6) W' e p → K none (gv W' u q)) → gp_Cal l G lev M as (gv W u q) K)
section
variable {tp : Nat → Nat} {n t : Nat}
theorem gpX_f {m e p : Nat} (h : gpX m w e p) : ¬ w 55 7 = 0 := by
  rw [h.1]
  exact nI_ne0 (Nat.pos_of_ne_zero h.2.1) (by have := h.2.2.1; omega)
theorem gpX_at {m e p : Nat} {x : Int32} (hm : m < 7) (h : gpX m w e p) : gpX m (gw w 55 6 x) e p := by
  obtain ⟨h1, h2, h3, h4, c, h5, h6⟩ := h
  exact ⟨h1, h2, h3, h4, c, h5, by rw [gw_ne (show gp_ma m ≠ 55 from gp_ma_55 hm 0 (by decide))]; exact h6⟩
theorem gpO_at {m j c : Nat} (hm : m < 7) (h : gpO m t w j c) (hj : j < t) : gpO m t (gw w 55 6 (w 55 6 + 1)) (j + 1) c := by
  obtain ⟨h1, h2, h3, h4, h5, h6⟩ := h
  exact ⟨by show w 55 6 + 1 = _; rw [h1]; exact nI_1 j, by omega, h3, h4, by rw [gw_ne (show gp_ma m ≠ 55 from gp_ma_55 hm 0 (by decide))]; exact h5, h6⟩
/-- a step is laid -/
theorem gpO_em {j c : Nat} {x : Int32} {op v k : Nat} (hm : q 6 < 7) (hO : gpO (q 6) t w j c) (hc : c < 500) (hv : v < 10000) (hop : k < 24) (ho : op < 16) (h1 : nI op = gc_oc k) (h2 : k = 0 ∨ k = 17 → x = nI v) (h3 : 1 ≤ k → k < 14 → v = k - 1) (h : ∀ W', gEF (q 6) w W' c → gpO (q 6) t W' j (c + 1) → gc_seg (W' (gp_ma (q 6) + 1)) c [(k, x)] → K none (gv W' u q)) : gp_Cal l G d m_Pa_emit [.ref 55, .int (nI op), .int (nI v)] (gv w u q) K := by
  obtain ⟨o1, o2, o3, o4, o5, o6⟩ := hO
  refine sp_Pa_emit hm o5 o6 (fun _ => ?_) (fun z => absurd hc z)
  have a0 : gp_ma (q 6) ≠ 55 := gp_ma_55 hm 0 (by decide)
  have a1 := gp_ma_55 hm 1 (by decide)
  have e55 : gw (gw w (gp_ma (q 6) + 1) c (nI v <<< (4 &&& 31) ||| nI op)) (gp_ma (q 6)) 9 (nI (c + 1)) 55 = w 55 := by rw [gw_ne (Ne.symm a0), gw_ne (Ne.symm a1)]
  refine h _ (gEF_cd hm (gEF_r w c) (Nat.le_refl c)) ⟨by rw [e55]; exact o1, o2, by rw [e55]; exact o3, by rw [e55]; exact o4, by rw [gw_at, if_pos rfl], by omega⟩ (gc_seg_1 hv hop ?_ ho h1 x h2 h3)
  rw [gw_ne (show gp_ma (q 6) + 1 ≠ gp_ma (q 6) by omega), gw_at, if_pos rfl]
theorem gpX_em {e p : Nat} {op v : Int32} (hm : q 6 < 7) (hX : gpX (q 6) w e p) (h : ∀ W', gEF (q 6) w W' 0 → gpX (q 6) W' e p → K none (gv W' u q)) : gp_Cal l G d m_Pa_emit [.ref 55, .int op, .int v] (gv w u q) K := by
  obtain ⟨x1, x2, x3, x4, c, x5, x6⟩ := hX
  have a0 : gp_ma (q 6) ≠ 55 := gp_ma_55 hm 0 (by decide)
  have a1 := gp_ma_55 hm 1 (by decide)
  refine sp_Pa_emit hm x6 x5 (fun hc => ?_) (fun _ => h w (gEF_r w 0) ⟨x1, x2, x3, x4, c, x5, x6⟩)
  refine h _ (gEF_cd hm (gEF_r w 0) (Nat.zero_le _)) ⟨?_, x2, x3, ?_, c + 1, by omega, by rw [gw_at, if_pos rfl]⟩
  · rw [gw_ne (Ne.symm a0), gw_ne (Ne.symm a1)]; exact x1
  · rw [gw_ne (Ne.symm a0), gw_ne (Ne.symm a1)]; exact x4
theorem gpO_fail {j c e : Nat} {x : Int32} (hm : q 6 < 7) (B : gpB w tp n t) (hO : gpO (q 6) t w j c) (ex : x = nI e) (he : e ≠ 0) (he4 : e < 4) (h : ∀ W', gEF (q 6) w W' 0 → gpX (q 6) W' e (gx_sp tp n j) → K none (gv W' u q)) : gp_Cal l G d m_Pa_fail [.ref 55, .int x] (gv w u q) K := by
  obtain ⟨o1, o2, o3, o4, o5, o6⟩ := hO
  have a0 : gp_ma (q 6) ≠ 55 := gp_ma_55 hm 0 (by decide)
  refine sp_Pa_fail B (fun j' _ ej hj => ?_) (fun z => absurd o3 z) (fun _ => ⟨j, o1, o2⟩)
  have b2 := B.2.1
  rw [o1] at ej
  have ej := (nI_eq (by omega) (by omega)).mp ej
  subst ej
  refine h _ (gEF_55 hm (gEF_55 hm (gEF_r w 0) (by omega)) (by omega)) ⟨ex, he, he4, rfl, c, o6, by rw [gw_ne a0, gw_ne a0]; exact o5⟩
theorem gpX_fail {e p : Nat} {x : Int32} (B : gpB w tp n t) (hX : gpX (q 6) w e p) (h : K none (gv w u q)) : gp_Cal l G d m_Pa_fail [.ref 55, .int x] (gv w u q) K :=
  sp_Pa_fail B (fun _ z _ _ => absurd z (gpX_f hX)) (fun _ => h) (fun z => absurd z (gpX_f hX))
theorem gpO_B (B : gpB w tp n t) {W : Nat → Nat → Int32} {c : Nat} (hm : q 6 < 7) (h : gEF (q 6) w W c) : gpB W tp n t := gEF_B hm h B
theorem gc_oc0 : nI 0 = gc_oc 0 := rfl
theorem gc_oc_v {k : Nat} (h1 : 1 ≤ k) (h2 : k < 14) : nI 1 = gc_oc k := by unfold gc_oc; rw [if_neg (by omega), if_pos h2]; rfl
theorem gc_oc_o {k : Nat} (h1 : 14 ≤ k) : nI (k - 12) = gc_oc k := by unfold gc_oc; rw [if_neg (by omega), if_neg (by omega)]
set_option maxRecDepth 100000 in
theorem gp_unit (hm : q 6 < 7) : gpC l G u q tp n t m_Pa_unit [.ref 55] (d + 1) (gy_unit (gx_kd tp n) (gx_nu tp n)) := by
  constructor
  · intro W j c K B hO hcj hS hF
    have o1 := hO.1
    have hjt := hO.2.1
    have ht := B.2.1
    refine gp_enter od_Pa_unit rfl ?_
    (repeat refine gp_gc [] od_Pa_unit rfl rfl ?_)
    refine sp_Pa_kind (d := d) (w := W) B (fun k k30 hk => ?_)
    have hk := hk j o1 hjt
    have kb := gx_kd_b tp n j
    (repeat refine gp_gc [] od_Pa_unit rfl rfl ?_)
    unfold gy_unit at hS hF
    by_cases c1 : gx_kd tp n j = 30
    · rw [if_pos c1] at hS
      have hj : j < t := gpB_lt B (by rw [c1]; decide)
      have nb := gx_nu_b c1
      have i58 := k30 (by rw [hk, c1]; rfl)
      have e58 : W 58 (W 55 6).toNatClampNeg = nI (gx_nu tp n j) := by rw [o1, nI_clamp (by omega)]; exact (B.2.2.1 j (by omega)).2.1 c1
      refine gb_ne_f (by rw [hk, c1]; rfl) ?_
      (repeat refine gp_gc [] od_Pa_unit rfl rfl ?_)
      refine And.intro i58 ?_
      rw [e58]
      (repeat refine gp_gc [] od_Pa_unit rfl rfl ?_)
      refine gpO_em (d := d) (w := W) (op := 0) (v := gx_nu tp n j) (k := 0) (x := nI (gx_nu tp n j)) hm hO (by omega) nb (by decide) (by decide) gc_oc0 (fun _ => rfl) (fun z => absurd z (by decide)) (fun W1 f1 O1 s1 => ?_)
      (repeat refine gp_gc [] od_Pa_unit rfl rfl ?_)
      refine hS (gw W1 55 6 (W1 55 6 + 1)) (j + 1) [(0, nI (gx_nu tp n j))] rfl (gEF_55 hm f1 (by omega)) (gpO_at hm O1 hj) ?_
      rw [gw_ne (gp_ma_55 hm 1 (by decide))]
      exact s1
    rw [if_neg c1] at hS hF
    refine gb_ne_t (by rw [hk]; exact fun z => c1 ((nI_eq (b := 30) (by omega) (by decide)).mp z)) ?_
    (repeat refine gp_gc [] od_Pa_unit rfl rfl ?_)
    by_cases c2 : 9 ≤ gx_kd tp n j
    rotate_left
    · rw [if_neg (fun z => c2 z.1)] at hF
      refine gb_lt_t (by rw [hk]; exact nI_lt (b := 9) (by omega) (by decide)) ?_
      (repeat refine gp_gc [] od_Pa_unit rfl rfl ?_)
      refine gpO_fail (d := d) (w := W) hm B hO (e := 1) rfl (by decide) (by decide) (fun W1 f1 X1 => ?_)
      (repeat refine gp_gc [] od_Pa_unit rfl rfl ?_)
      exact hF W1 1 j rfl f1 X1
    refine gb_lt_f (by rw [hk]; exact nI_nlt (b := 9) c2 (by omega)) ?_
    (repeat refine gp_gc [] od_Pa_unit rfl rfl ?_)
    by_cases c3 : gx_kd tp n j ≤ 21
    rotate_left
    · rw [if_neg (fun z => c3 z.2)] at hF
      refine gb_gt_t (by rw [hk]; exact nI_lt (a := 21) (by omega) (by omega)) ?_
      (repeat refine gp_gc [] od_Pa_unit rfl rfl ?_)
      refine gpO_fail (d := d) (w := W) hm B hO (e := 1) rfl (by decide) (by decide) (fun W1 f1 X1 => ?_)
      (repeat refine gp_gc [] od_Pa_unit rfl rfl ?_)
      exact hF W1 1 j rfl f1 X1
    rw [if_pos ⟨c2, c3⟩] at hS
    have hj : j < t := gpB_lt B (by omega)
    refine gb_gt_f (by rw [hk]; exact nI_nlt (a := 21) c3 (by decide)) ?_
    (repeat refine gp_gc [] od_Pa_unit rfl rfl ?_)
    have e9 : k - (Int8.ofInt 9).toInt32 = nI (gx_kd tp n j - 9) := by rw [hk]; exact pk_sub (b := 9) c2
    rw [e9]
    refine gpO_em (d := d) (w := W) (op := 1) (v := gx_kd tp n j - 9) (k := gx_kd tp n j - 8) (x := 0) hm hO (by omega) (by omega) (by omega) (by decide) (gc_oc_v (by omega) (by omega)) (fun z => absurd z (by omega)) (fun _ _ => by omega) (fun W1 f1 O1 s1 => ?_)
    (repeat refine gp_gc [] od_Pa_unit rfl rfl ?_)
    refine hS (gw W1 55 6 (W1 55 6 + 1)) (j + 1) [(gx_kd tp n j - 8, 0)] rfl (gEF_55 hm f1 (by omega)) (gpO_at hm O1 hj) ?_
    rw [gw_ne (gp_ma_55 hm 1 (by decide))]
    exact s1
  · intro W e p K B hX hK
    refine gp_enter od_Pa_unit rfl ?_
    (repeat refine gp_gc [] od_Pa_unit rfl rfl ?_)
    refine sp_Pa_kind (d := d) (w := W) B (fun k k30 _ => ?_)
    (repeat refine gp_gc [] od_Pa_unit rfl rfl ?_)
    by_cases c1 : k = 30
    · refine gb_ne_f c1 ?_
      (repeat refine gp_gc [] od_Pa_unit rfl rfl ?_)
      refine And.intro (k30 c1) ?_
      (repeat refine gp_gc [] od_Pa_unit rfl rfl ?_)
      refine gpX_em (d := d) (w := W) hm hX (fun W1 f1 X1 => ?_)
      (repeat refine gp_gc [] od_Pa_unit rfl rfl ?_)
      exact hK _ (gEF_55 hm f1 (by omega)) (gpX_at hm X1)
    refine gb_ne_t c1 ?_
    (repeat refine gp_gc [] od_Pa_unit rfl rfl ?_)
    by_cases c2 : k < 9
    · refine gb_lt_t c2 ?_
      (repeat refine gp_gc [] od_Pa_unit rfl rfl ?_)
      refine gpX_fail (d := d) (w := W) B hX ?_
      (repeat refine gp_gc [] od_Pa_unit rfl rfl ?_)
      exact hK W (gEF_r W 0) hX
    refine gb_lt_f c2 ?_
    (repeat refine gp_gc [] od_Pa_unit rfl rfl ?_)
    by_cases c3 : 21 < k
    · refine gb_gt_t c3 ?_
      (repeat refine gp_gc [] od_Pa_unit rfl rfl ?_)
      refine gpX_fail (d := d) (w := W) B hX ?_
      (repeat refine gp_gc [] od_Pa_unit rfl rfl ?_)
      exact hK W (gEF_r W 0) hX
    refine gb_gt_f c3 ?_
    (repeat refine gp_gc [] od_Pa_unit rfl rfl ?_)
    refine gpX_em (d := d) (w := W) hm hX (fun W1 f1 X1 => ?_)
    (repeat refine gp_gc [] od_Pa_unit rfl rfl ?_)
    exact hK _ (gEF_55 hm f1 (by omega)) (gpX_at hm X1)
def gy_part (kd nm : Nat → Nat) (j : Nat) : gy := if kd j = 30 then (if nm j = 0 then .inl (2, j) else .inr (j + 1, [(17, nI (nm j))])) else .inl (1, j)
set_option maxRecDepth 100000 in
theorem gp_part (hm : q 6 < 7) : gpC l G u q tp n t m_Pa_part [.ref 55] (d + 1) (gy_part (gx_kd tp n) (gx_nu tp n)) := by
  constructor
  · intro W j c K B hO hcj hS hF
    have o1 := hO.1
    have hjt := hO.2.1
    have ht := B.2.1
    refine gp_enter od_Pa_part rfl ?_
    (repeat refine gp_gc [] od_Pa_part rfl rfl ?_)
    refine sp_Pa_kind (d := d) (w := W) B (fun k k30 hk => ?_)
    have hk := hk j o1 hjt
    have kb := gx_kd_b tp n j
    (repeat refine gp_gc [] od_Pa_part rfl rfl ?_)
    unfold gy_part at hS hF
    by_cases c1 : gx_kd tp n j = 30
    · rw [if_pos c1] at hS hF
      have hj : j < t := gpB_lt B (by rw [c1]; decide)
      have nb := gx_nu_b c1
      have i58 := k30 (by rw [hk, c1]; rfl)
      have e58 : W 58 (W 55 6).toNatClampNeg = nI (gx_nu tp n j) := by rw [o1, nI_clamp (by omega)]; exact (B.2.2.1 j (by omega)).2.1 c1
      refine gb_eq_t (by rw [hk, c1]; rfl) ?_
      (repeat refine gp_gc [] od_Pa_part rfl rfl ?_)
      refine And.intro i58 ?_
      rw [e58]
      (repeat refine gp_gc [] od_Pa_part rfl rfl ?_)
      by_cases c2 : gx_nu tp n j = 0
      · rw [if_pos c2] at hF
        refine gb1_ne_f (by rw [c2]; rfl) ?_
        (repeat refine gp_gc [] od_Pa_part rfl rfl ?_)
        refine gpO_fail (d := d) (w := W) hm B hO (e := 2) rfl (by decide) (by decide) (fun W1 f1 X1 => ?_)
        (repeat refine gp_gc [] od_Pa_part rfl rfl ?_)
        exact hF W1 2 j rfl f1 X1
      · rw [if_neg c2] at hS
        refine gb1_ne_t (nI_ne0 (by omega) (by omega)) ?_
        (repeat refine gp_gc [] od_Pa_part rfl rfl ?_)
        refine And.intro i58 ?_
        rw [e58]
        (repeat refine gp_gc [] od_Pa_part rfl rfl ?_)
        refine gpO_em (d := d) (w := W) (op := 5) (v := gx_nu tp n j) (k := 17) (x := nI (gx_nu tp n j)) hm hO (by omega) nb (by decide) (by decide) (gc_oc_o (k := 17) (by decide)) (fun _ => rfl) (fun _ z => absurd z (by decide)) (fun W1 f1 O1 s1 => ?_)
        (repeat refine gp_gc [] od_Pa_part rfl rfl ?_)
        refine hS (gw W1 55 6 (W1 55 6 + 1)) (j + 1) [(17, nI (gx_nu tp n j))] rfl (gEF_55 hm f1 (by omega)) (gpO_at hm O1 hj) ?_
        rw [gw_ne (gp_ma_55 hm 1 (by decide))]
        exact s1
    · rw [if_neg c1] at hF
      refine gb_eq_f (by rw [hk]; exact fun z => c1 ((nI_eq (b := 30) (by omega) (by decide)).mp z)) ?_
      (repeat refine gp_gc [] od_Pa_part rfl rfl ?_)
      refine gpO_fail (d := d) (w := W) hm B hO (e := 1) rfl (by decide) (by decide) (fun W1 f1 X1 => ?_)
      (repeat refine gp_gc [] od_Pa_part rfl rfl ?_)
      exact hF W1 1 j rfl f1 X1
  · intro W e p K B hX hK
    refine gp_enter od_Pa_part rfl ?_
    (repeat refine gp_gc [] od_Pa_part rfl rfl ?_)
    refine sp_Pa_kind (d := d) (w := W) B (fun k k30 _ => ?_)
    (repeat refine gp_gc [] od_Pa_part rfl rfl ?_)
    by_cases c1 : k = 30
    · have i58 := k30 c1
      refine gb_eq_t c1 ?_
      (repeat refine gp_gc [] od_Pa_part rfl rfl ?_)
      refine And.intro i58 ?_
      (repeat refine gp_gc [] od_Pa_part rfl rfl ?_)
      by_cases c2 : W 58 (W 55 6).toNatClampNeg = 0
      · refine gb1_ne_f c2 ?_
        (repeat refine gp_gc [] od_Pa_part rfl rfl ?_)
        refine gpX_fail (d := d) (w := W) B hX ?_
        (repeat refine gp_gc [] od_Pa_part rfl rfl ?_)
        exact hK W (gEF_r W 0) hX
      · refine gb1_ne_t c2 ?_
        (repeat refine gp_gc [] od_Pa_part rfl rfl ?_)
        refine And.intro i58 ?_
        (repeat refine gp_gc [] od_Pa_part rfl rfl ?_)
        refine gpX_em (d := d) (w := W) hm hX (fun W1 f1 X1 => ?_)
        (repeat refine gp_gc [] od_Pa_part rfl rfl ?_)
        exact hK _ (gEF_55 hm f1 (by omega)) (gpX_at hm X1)
    · refine gb_eq_f c1 ?_
      (repeat refine gp_gc [] od_Pa_part rfl rfl ?_)
      refine gpX_fail (d := d) (w := W) B hX ?_
      (repeat refine gp_gc [] od_Pa_part rfl rfl ?_)
      exact hK W (gEF_r W 0) hX
def gy_exp (kd : Nat → Nat) (s j : Nat) : gy := if kd j = s then .inr (j + 1, []) else .inl (1, j)
set_option maxRecDepth 100000 in
theorem gp_expect (hm : q 6 < 7) {x : Int32} {s : Nat} (ex : x = nI s) (hs : s < 1000) (h31 : s ≠ 31) : gpC l G u q tp n t m_Pa_expect [.ref 55, .int x] (d + 1) (gy_exp (gx_kd tp n) s) := by
  subst ex
  constructor
  · intro W j c K B hO hcj hS hF
    have o1 := hO.1
    have hjt := hO.2.1
    refine gp_enter od_Pa_expect rfl ?_
    (repeat refine gp_gc [] od_Pa_expect rfl rfl ?_)
    refine sp_Pa_kind (d := d) (w := W) B (fun k k30 hk => ?_)
    have hk := hk j o1 hjt
    have kb := gx_kd_b tp n j
    (repeat refine gp_gc [] od_Pa_expect rfl rfl ?_)
    unfold gy_exp at hS hF
    by_cases c1 : gx_kd tp n j = s
    · rw [if_pos c1] at hS
      refine gb_ne_f (by rw [hk, c1]) ?_
      (repeat refine gp_gc [] od_Pa_expect rfl rfl ?_)
      refine hS (gw W 55 6 (W 55 6 + 1)) (j + 1) [] rfl (gEF_55 hm (gEF_r W c) (by omega)) (gpO_at hm hO (gpB_lt B (by rw [c1]; exact h31))) trivial
    · rw [if_neg c1] at hF
      refine gb_ne_t (by rw [hk]; exact fun z => c1 ((nI_eq (by omega) (by omega)).mp z)) ?_
      (repeat refine gp_gc [] od_Pa_expect rfl rfl ?_)
      refine gpO_fail (d := d) (w := W) hm B hO (e := 1) rfl (by decide) (by decide) (fun W1 f1 X1 => ?_)
      (repeat refine gp_gc [] od_Pa_expect rfl rfl ?_)
      exact hF W1 1 j rfl f1 X1
  · intro W e p K B hX hK
    refine gp_enter od_Pa_expect rfl ?_
    (repeat refine gp_gc [] od_Pa_expect rfl rfl ?_)
    refine sp_Pa_kind (d := d) (w := W) B (fun k _ _ => ?_)
    (repeat refine gp_gc [] od_Pa_expect rfl rfl ?_)
    by_cases c1 : k = nI s
    · refine gb_ne_f c1 ?_
      (repeat refine gp_gc [] od_Pa_expect rfl rfl ?_)
      exact hK _ (gEF_55 hm (gEF_r W 0) (by omega)) (gpX_at hm hX)
    · refine gb_ne_t c1 ?_
      (repeat refine gp_gc [] od_Pa_expect rfl rfl ?_)
      refine gpX_fail (d := d) (w := W) B hX ?_
      (repeat refine gp_gc [] od_Pa_expect rfl rfl ?_)
      exact hK W (gEF_r W 0) hX
end

end
