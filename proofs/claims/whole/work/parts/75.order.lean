section
variable {l : Launch} {G : gp_G} {d : Nat} {w : Nat → Nat → Int32} {u : Int64 × (Nat → Int64)} {q : Nat → Nat} {K : Option Value → gp_H → Prop}
/-! ===== the class's methods: widths in order ===== -/
section
variable {N Ng m : Nat} {TL : Option gf_L} {D : Nat → gy_D}
set_option maxRecDepth 100000 in
theorem sp_Wi_insert {x v : Int32} {s : gq_st} (hs : s.1 < 24) (h80 : w 80 2 = nI s.1) (hrow : ∀ j, j < s.1 → w 82 j = s.2.1 j ∧ w 81 j = s.2.2 j) (h : ∀ W, (∀ b, b ≠ 80 → b ≠ 81 → b ≠ 82 → W b = w b) → W 80 2 = nI (s.1 + 1) → (∀ j, j < s.1 + 1 → W 82 j = (gq_ins s v x).2.1 j ∧ W 81 j = (gq_ins s v x).2.2 j) → K none (gv W u q)) : gp_Cal l G (d + 0) m_Wi_insert [.ref 80, .int x, .int v] (gv w u q) K := by
  refine gp_enter od_Wi_insert rfl ?_
  have done : ∀ (i : Nat) (W : Nat → Nat → Int32), i ≤ s.1 → gq_pos s.2.1 v s.1 = i → (∀ b, b ≠ 81 → b ≠ 82 → W b = w b) → (∀ j, j < i → W 82 j = s.2.1 j ∧ W 81 j = s.2.2 j) → (∀ j, i < j → j ≤ s.1 → W 82 j = s.2.1 (j - 1) ∧ W 81 j = s.2.2 (j - 1)) → gp_Go l G (d + 0) m_Wi_insert K 82 [some (.ref 80), some (.int x), some (.int v), some (.int (nI i)), some (.int (nI i))] [] (gv W u q) 0 0 := by
    intro i W hi ep hW h1 h2
    have ci : (nI i).toNatClampNeg = i := nI_clamp (by omega)
    have e80 : W 80 2 = nI s.1 := by rw [hW 80 (by decide) (by decide)]; exact h80
    refine gp_go od_Wi_insert rfl ?_
    (repeat refine gp_gc [21, 82] od_Wi_insert rfl rfl ?_)
    refine And.intro (vp_in_nI (by omega) (by decide)) ?_
    (repeat refine gp_gc [21, 82] od_Wi_insert rfl rfl ?_)
    refine And.intro (vp_in_nI (by omega) (by decide)) ?_
    (repeat refine gp_gc [21, 82] od_Wi_insert rfl rfl ?_)
    rw [ci]
    refine h (gw (gw (gw W 82 i v) 81 i x) 80 2 (W 80 2 + 1)) (fun b b1 b2 b3 => by rw [gw_ne b1, gw_ne b2, gw_ne b3]; exact hW b b2 b3) (by show W 80 2 + 1 = _; rw [e80]; exact nI_1 _) (fun j hj => ?_)
    show upd (W 82) i v j = gq_put s.2.1 (gq_pos s.2.1 v s.1) v j ∧ upd (W 81) i x j = gq_put s.2.2 (gq_pos s.2.1 v s.1) x j
    rw [ep]
    unfold gq_put
    by_cases c : j = i
    · subst c
      rw [pk_us, pk_us, if_neg (Nat.lt_irrefl j), if_pos rfl, if_neg (Nat.lt_irrefl j), if_pos rfl]
      exact ⟨rfl, rfl⟩
    · rw [pk_un c, pk_un c]
      by_cases c2 : j < i
      · rw [if_pos c2, if_pos c2]
        exact h1 j c2
      · rw [if_neg c2, if_neg c2, if_neg c, if_neg c]
        exact h2 j (by omega) (by omega)
  have loop : ∀ (i : Nat) (W : Nat → Nat → Int32), i ≤ s.1 → gq_pos s.2.1 v s.1 = gq_pos s.2.1 v i → (∀ b, b ≠ 81 → b ≠ 82 → W b = w b) → (∀ j, j < i → W 82 j = s.2.1 j ∧ W 81 j = s.2.2 j) → (∀ j, i < j → j ≤ s.1 → W 82 j = s.2.1 (j - 1) ∧ W 81 j = s.2.2 (j - 1)) → gp_Go l G (d + 0) m_Wi_insert K 21 [some (.ref 80), some (.int x), some (.int v), some (.int (nI i)), some (.int (nI i))] [] (gv W u q) 0 0 := by
    intro i
    induction i with
    | zero =>
      intro W hi ep hW h1 h2
      refine gp_go od_Wi_insert rfl ?_
      (repeat refine gp_gc [21, 82] od_Wi_insert rfl rfl ?_)
      refine gb1_le_t (by decide) ?_
      (repeat refine gp_gc [21, 82] od_Wi_insert rfl rfl ?_)
      exact done 0 W hi ep hW h1 h2
    | succ i ih =>
      intro W hi ep hW h1 h2
      have ep : gq_pos s.2.1 v s.1 = (if v < s.2.1 i then gq_pos s.2.1 v i else i + 1) := ep
      have e1 : nI (i + 1) - Int32.ofInt 1 = nI i := nI_pred i
      have c1 : (nI i).toNatClampNeg = i := nI_clamp (by omega)
      have v1 : vp_in (nI i) 24 := vp_in_nI (by omega) (by decide)
      have v2 : vp_in (nI (i + 1)) 24 := vp_in_nI (by omega) (by decide)
      have c2 : (nI (i + 1)).toNatClampNeg = i + 1 := nI_clamp (by omega)
      refine gp_go od_Wi_insert rfl ?_
      (repeat refine gp_gc [21, 82] od_Wi_insert rfl rfl ?_)
      refine gb1_le_f (nI_nle (by omega) (by omega)) ?_
      (repeat refine gp_gc [21, 82] od_Wi_insert rfl rfl ?_)
      rw [e1]
      refine And.intro v1 ?_
      rw [c1]
      (repeat refine gp_gc [21, 82] od_Wi_insert rfl rfl ?_)
      have hR : W 82 i = s.2.1 i := (h1 i (by omega)).1
      rw [hR]
      by_cases c : v < s.2.1 i
      · rw [if_pos c] at ep
        refine gb_le_f (Int32.not_le.mpr c) ?_
        (repeat refine gp_gc [21, 82] od_Wi_insert rfl rfl ?_)
        rw [e1]
        refine And.intro v1 ?_
        rw [c1]
        (repeat refine gp_gc [21, 82] od_Wi_insert rfl rfl ?_)
        refine And.intro v2 ?_
        rw [c2]
        (repeat refine gp_gc [21, 82] od_Wi_insert rfl rfl ?_)
        rw [e1]
        refine And.intro v1 ?_
        rw [c1]
        (repeat refine gp_gc [21, 82] od_Wi_insert rfl rfl ?_)
        refine And.intro v2 ?_
        rw [c2]
        (repeat refine gp_gc [21, 82] od_Wi_insert rfl rfl ?_)
        rw [e1, show nI (i + 1) + Int32.ofInt (-1) = nI i from pk_m1 i]
        refine ih (gw (gw W 82 (i + 1) (W 82 i)) 81 (i + 1) (W 81 i)) (by omega) ep (fun b b1 b2 => by rw [gw_ne b1, gw_ne b2]; exact hW b b1 b2) (fun j hj => ?_) (fun j hj hj2 => ?_)
        · show upd (W 82) (i + 1) (W 82 i) j = _ ∧ upd (W 81) (i + 1) (W 81 i) j = _
          rw [pk_un (by omega), pk_un (by omega)]
          exact h1 j (by omega)
        · show upd (W 82) (i + 1) (W 82 i) j = _ ∧ upd (W 81) (i + 1) (W 81 i) j = _
          by_cases e2 : j = i + 1
          · subst e2
            rw [pk_us, pk_us]
            exact h1 i (by omega)
          · rw [pk_un e2, pk_un e2]
            exact h2 j (by omega) hj2
      · rw [if_neg c] at ep
        refine gb_le_t (Int32.not_lt.mp c) ?_
        (repeat refine gp_gc [21, 82] od_Wi_insert rfl rfl ?_)
        exact done (i + 1) W hi ep hW h1 h2
  (repeat refine gp_gc [21, 82] od_Wi_insert rfl rfl ?_)
  refine gb_lt_t (by rw [h80]; exact nI_lt (b := 24) hs (by decide)) ?_
  (repeat refine gp_gc [21, 82] od_Wi_insert rfl rfl ?_)
  rw [h80]
  exact loop s.1 w (Nat.le_refl _) rfl (fun _ _ _ => rfl) (fun j hj => hrow j hj) (fun j hj hj2 => absurd hj2 (by omega))
def gq_cn (N : Nat) : Nat → Nat
  | 0 => 0
  | k + 1 => gq_cn N k + (match N % (2 + k) with
    | 0 => 1
    | _ => 0)
theorem gq_cn_b : ∀ N, N < 401 → gq_cn N (N / 2 - 1) ≤ 23 := by decide +kernel
theorem gq_cn_m {N : Nat} : ∀ {k j : Nat}, gq_cn N k ≤ gq_cn N (k + j)
  | k, 0 => Nat.le_refl _
  | k, j + 1 => Nat.le_trans (gq_cn_m (j := j)) (Nat.le_add_right _ _)
theorem gp_it_app {X : Type} (f : Nat → X → X) : ∀ (k l a : Nat) (x : X), gp_it f a (k + l) x = gp_it f (a + k) l (gp_it f a k x)
  | 0, l, a, x => by rw [Nat.zero_add]; rfl
  | k + 1, l, a, x => by
    rw [show k + 1 + l = (k + l) + 1 by omega]
    show gp_it f (a + 1) (k + l) (f a x) = gp_it f (a + (k + 1)) l (gp_it f (a + 1) k (f a x))
    rw [gp_it_app f k l (a + 1) (f a x), show a + 1 + k = a + (k + 1) by omega]
theorem gp_it_id {X : Type} {f : Nat → X → X} : ∀ {k a : Nat} {x : X}, (∀ i x, a ≤ i → i < a + k → f i x = x) → gp_it f a k x = x
  | 0, _, _, _ => rfl
  | k + 1, a, x, h => by
    show gp_it f (a + 1) k (f a x) = x
    rw [h a x (Nat.le_refl _) (by omega)]
    exact gp_it_id (fun i x h1 h2 => h i x (by omega) (by omega))
theorem gq_half {N : Nat} {rk : Nat → Int32} : gq_all N rk (N - 2) = gq_all N rk (N / 2 - 1) := by
  unfold gq_all
  rw [show N - 2 = (N / 2 - 1) + (N - 2 - (N / 2 - 1)) by omega, gp_it_app]
  refine gp_it_id (fun i x h1 h2 => ?_)
  refine if_neg (fun z => ?_)
  have hd : N = i * (N / i) := (Nat.mul_div_cancel' (Nat.dvd_of_mod_eq_zero z)).symm
  have hq : N / i < 2 := by
    rcases Nat.lt_or_ge (N / i) 2 with c | c
    · exact c
    · have : i * 2 ≤ i * (N / i) := Nat.mul_le_mul_left i c
      omega
  have : i * (N / i) ≤ i * 1 := Nat.mul_le_mul_left i (by omega)
  omega
/-- what order changes -/
def gO (w W : Nat → Nat → Int32) : Prop := ∀ b, b ≠ 52 → b ≠ 53 → b ≠ 54 → b ≠ 68 → b ≠ 80 → b ≠ 81 → b ≠ 82 → W b = w b
theorem gO_R {w W : Nat → Nat → Int32} (h : gO w W) : gs_R w W := by
  refine ⟨fun b hb h83 h95 => ?_, fun k _ => by rw [h 95 (by decide) (by decide) (by decide) (by decide) (by decide) (by decide) (by decide)], by rw [h 83 (by decide) (by decide) (by decide) (by decide) (by decide) (by decide) (by decide)]⟩
  refine h b ?_ ?_ ?_ ?_ ?_ ?_ ?_ <;> (intro z; rw [z] at hb; exact absurd hb (by decide))
theorem gc_try_eq {w W : Nat → Nat → Int32} {m : Nat} {TL : Option gf_L} (g0 : W (gp_ma m) = w (gp_ma m)) (g1 : W (gp_ma m + 1) = w (gp_ma m + 1)) (hT : gc_try w m TL) : gc_try W m TL := by
  cases TL with
  | none => show W (gp_ma m) 13 = 0; rw [g0]; exact hT
  | some L =>
    obtain ⟨q0, c, q1, q2, q3, q4, q5⟩ := hT
    exact ⟨by rw [g0]; exact q0, c, by rw [g0]; exact q1, by rw [g0]; exact q2, q3, by rw [g1]; exact q4, q5⟩
set_option maxRecDepth 100000 in
theorem sp_Wi_order {rk : Nat → Int32} (hm : m < 7) (eN : w 76 1 = nI N) (hN : N ≤ 400) (hT : gc_try w m TL) (hrk : ∀ a b, 1 < a → a < N → N = a * b → rk a = gf_rk (gp_it (gc_edS w a (a * b)) 0 (a * b) 0) a b TL) (h : ∀ W s, s = gq_all N rk (N - 2) → s.1 ≤ 23 → gO w W → W 80 2 = nI s.1 → (∀ j, j < s.1 → W 81 j = s.2.2 j) → K none (gv W u q)) : gp_Cal l G (d + 5) m_Wi_order [.ref 80, .ref 76, .ref (gp_ma m), .ref 52] (gv w u q) K := by
  refine gp_enter od_Wi_order rfl ?_
  have cb := gq_cn_b N (by omega)
  have main : ∀ (r a : Nat) (s : gq_st) (W : Nat → Nat → Int32), a + r = N / 2 + 1 ∨ (N / 2 < a ∧ r = 0 ∧ a = 2) → 2 ≤ a → s.1 = gq_cn N (a - 2) → gp_it (gq_f N rk) a r s = gq_all N rk (N / 2 - 1) → gO w W → W 80 2 = nI s.1 → (∀ j, j < s.1 → W 82 j = s.2.1 j ∧ W 81 j = s.2.2 j) → gp_Go l G (d + 5) m_Wi_order K 8 [some (.ref 80), some (.ref 76), some (.ref (gp_ma m)), some (.ref 52), some (.int (nI a))] [] (gv W u q) 0 0 := by
    intro r
    induction r with
    | zero =>
      intro a s W har ha2 hs e hO h80 hrow
      have e : s = gq_all N rk (N / 2 - 1) := e
      have WN : W 76 1 = nI N := by rw [hO 76 (by decide) (by decide) (by decide) (by decide) (by decide) (by decide) (by decide)]; exact eN
      have hle : s.1 ≤ 23 := by
        rcases har with z | z
        · rw [hs, show a - 2 = N / 2 - 1 by omega]; exact cb
        · rw [hs, z.2.2]; exact Nat.zero_le 23
      refine gp_go od_Wi_order rfl ?_
      (repeat refine gp_gc [8, 42] od_Wi_order rfl rfl ?_)
      refine And.intro (by decide) ?_
      have e2 : W 76 1 / Int32.ofInt 2 = nI (N / 2) := by rw [WN]; exact pk_div (d := 2) (by omega) (by decide) (by decide)
      rw [e2]
      (repeat refine gp_gc [8, 42] od_Wi_order rfl rfl ?_)
      refine gb_gt_t (nI_lt (by omega) (by omega)) ?_
      (repeat refine gp_gc [8, 42] od_Wi_order rfl rfl ?_)
      exact h W s (by rw [gq_half]; exact e) hle hO h80 (fun j hj => (hrow j hj).2)
    | succ r ih =>
      intro a s W har ha2 hs e hO h80 hrow
      have haN : a ≤ N / 2 := by omega
      have e : gp_it (gq_f N rk) (a + 1) r (gq_f N rk a s) = gq_all N rk (N / 2 - 1) := e
      have WN : W 76 1 = nI N := by rw [hO 76 (by decide) (by decide) (by decide) (by decide) (by decide) (by decide) (by decide)]; exact eN
      have inc : nI a + Int32.ofInt 1 = nI (a + 1) := gp_inc rfl
      have cn1 : gq_cn N (a - 2 + 1) = gq_cn N (a - 2) + (match N % a with
          | 0 => 1
          | _ => 0) := by
        show gq_cn N (a - 2) + (match N % (2 + (a - 2)) with
          | 0 => 1
          | _ => 0) = _
        rw [show 2 + (a - 2) = a by omega]
      have ea1 : a + 1 - 2 = a - 2 + 1 := by omega
      refine gp_go od_Wi_order rfl ?_
      (repeat refine gp_gc [8, 42] od_Wi_order rfl rfl ?_)
      refine And.intro (by decide) ?_
      have e2 : W 76 1 / Int32.ofInt 2 = nI (N / 2) := by rw [WN]; exact pk_div (d := 2) (by omega) (by decide) (by decide)
      rw [e2]
      (repeat refine gp_gc [8, 42] od_Wi_order rfl rfl ?_)
      refine gb_gt_f (nI_nlt (by omega) (by omega)) ?_
      (repeat refine gp_gc [8, 42] od_Wi_order rfl rfl ?_)
      refine sp_Br_foldsBy (d := d + 4) WN hN (fun a' b ew ha haN2 eab => ?_) (fun n2 => ?_)
      rotate_left
      · have hmd : ¬ N % a = 0 := by
          intro z
          exact n2 ⟨a, N / a, rfl, by omega, by omega, (Nat.mul_div_cancel' (Nat.dvd_of_mod_eq_zero z)).symm⟩
        have x1 : gq_f N rk a s = s := if_neg hmd
        rw [x1] at e
        (repeat refine gp_gc [8, 42] od_Wi_order rfl rfl ?_)
        refine gb1_eq_t rfl ?_
        (repeat refine gp_gc [8, 42] od_Wi_order rfl rfl ?_)
        refine gp_go od_Wi_order rfl ?_
        (repeat refine gp_gc [8, 42] od_Wi_order rfl rfl ?_)
        rw [inc]
        refine ih (a + 1) s W (by omega) (by omega) ?_ e hO h80 hrow
        rw [hs, ea1, cn1]
        cases hz : N % a with
        | zero => exact absurd hz hmd
        | succ z => rfl
      have ew := (nI_eq (by omega) (by omega)).mp ew
      subst ew
      have hmd : N % a = 0 := by rw [eab]; exact Nat.mul_mod_right _ _
      have hb : 0 < b := by
        rcases Nat.eq_zero_or_pos b with z | z
        · rw [z] at eab; omega
        · exact z
      have x1 : gq_f N rk a s = gq_ins s (rk a) (nI a) := if_pos hmd
      rw [x1, hrk a b ha haN2 eab] at e
      have hs1 : gq_cn N (a - 2 + 1) = s.1 + 1 := by rw [cn1, hs, hmd]; rfl
      have hlt : s.1 < 24 := by
        have mm := gq_cn_m (N := N) (k := a - 2 + 1) (j := N / 2 - 1 - (a - 2 + 1))
        rw [show a - 2 + 1 + (N / 2 - 1 - (a - 2 + 1)) = N / 2 - 1 by omega] at mm
        omega
      (repeat refine gp_gc [8, 42] od_Wi_order rfl rfl ?_)
      refine gb1_eq_f (by decide) ?_
      (repeat refine gp_gc [8, 42] od_Wi_order rfl rfl ?_)
      have g0 : W (gp_ma m) = w (gp_ma m) := by
        have bb := gp_ma_n hm 0 (by decide)
        exact hO _ (by omega) (by omega) (by omega) (by omega) (by omega) (by omega) (by omega)
      have g1 : W (gp_ma m + 1) = w (gp_ma m + 1) := by
        have bb := gp_ma_n hm 1 (by decide)
        exact hO _ (by omega) (by omega) (by omega) (by omega) (by omega) (by omega) (by omega)
      refine sp_Wi_rankOf (d := d) (w := W) (a := a) (b := b) (TL := TL) hm (by rw [← eab]; exact WN) (by omega) (by omega) hb rfl (gc_try_eq g0 g1 hT) (fun W2 hV => ?_)
      have eE : gp_it (gc_edS W a (a * b)) 0 (a * b) 0 = gp_it (gc_edS w a (a * b)) 0 (a * b) 0 := by
        unfold gc_edS
        rw [hO 77 (by decide) (by decide) (by decide) (by decide) (by decide) (by decide) (by decide)]
      rw [eE]
      have hO2 : gO w W2 := fun b b1 b2 b3 b4 b5 b6 b7 => (hV b b1 b2 b3 b4).trans (hO b b1 b2 b3 b4 b5 b6 b7)
      (repeat refine gp_gc [8, 42] od_Wi_order rfl rfl ?_)
      refine sp_Wi_insert (d := d + 4) (w := W2) (s := s) hlt (by rw [hV 80 (by decide) (by decide) (by decide) (by decide)]; exact h80) (fun j hj => by rw [hV 82 (by decide) (by decide) (by decide) (by decide), hV 81 (by decide) (by decide) (by decide) (by decide)]; exact hrow j hj) (fun W3 hW3 h803 hrow3 => ?_)
      (repeat refine gp_gc [8, 42] od_Wi_order rfl rfl ?_)
      refine gp_go od_Wi_order rfl ?_
      (repeat refine gp_gc [8, 42] od_Wi_order rfl rfl ?_)
      rw [inc]
      refine ih (a + 1) _ W3 (by omega) (by omega) ?_ e (fun b b1 b2 b3 b4 b5 b6 b7 => (hW3 b b5 b6 b7).trans (hO2 b b1 b2 b3 b4 b5 b6 b7)) h803 hrow3
      rw [ea1, hs1]
      rfl
  (repeat refine gp_gc [8, 42] od_Wi_order rfl rfl ?_)
  refine main (N / 2 - 1) 2 (0, (fun _ => 0), (fun _ => 0)) (gw w 80 2 0) ?_ (by decide) rfl rfl (fun b b1 b2 b3 b4 b5 b6 b7 => gw_ne b5) rfl (fun j hj => absurd hj (Nat.not_lt_zero j))
  by_cases c : 2 ≤ N / 2 + 1
  · exact Or.inl (by omega)
  · exact Or.inr ⟨by omega, by omega, rfl⟩
set_option maxRecDepth 100000 in
theorem sp_Gp_widths {k what : Int32} (Jb : gJ_bi w N Ng) (Q : gJ_q w q D) (h1 : ∀ kn W s, k = nI kn → kn < 6 → 0 ≤ what → s = gq_all N (gf_rkN w k N (D kn).2.2.2.2.2.2) (N - 2) → gs_R w W → K (some (.int (if what = 0 then nI s.1 else if what ≤ nI s.1 then s.2.2 (what - 1).toNatClampNeg else -1))) (gv W u q)) (h0 : ¬ ((0 ≤ k ∧ k ≤ 5) ∧ 0 ≤ what) → K (some (.int (-1))) (gv w u q)) : gp_Cal l G (d + 6) m_Gp_widths [.ref 0, .int k, .int what] (gv w u q) K := by
  refine gp_enter od_Gp_widths rfl ?_
  have hN := Jb.2.2.1
  (repeat refine gp_gc [] od_Gp_widths rfl rfl ?_)
  refine sp_Gp_isMind (fun a1 b1 => ?_) (fun n1 => ?_)
  rotate_left
  · repeat refine gp_gc [] od_Gp_widths rfl rfl ?_
    first | refine And.intro (fun _ => ?_) (fun c => absurd rfl c) | refine And.intro (fun c => absurd rfl c) (fun _ => ?_)
    repeat refine gp_gc [] od_Gp_widths rfl rfl ?_
    exact h0 (fun z => n1 z.1)
  repeat refine gp_gc [] od_Gp_widths rfl rfl ?_
  first | refine And.intro (fun c => absurd c (by decide)) (fun _ => ?_) | refine And.intro (fun _ => ?_) (fun c => absurd c (by decide))
  repeat refine gp_gc [] od_Gp_widths rfl rfl ?_
  by_cases b2 : 0 ≤ what
  rotate_left
  · refine gb1_ge_f b2 ?_
    (repeat refine gp_gc [] od_Gp_widths rfl rfl ?_)
    exact h0 (fun z => b2 z.2)
  refine gb1_ge_t b2 ?_
  (repeat refine gp_gc [] od_Gp_widths rfl rfl ?_)
  obtain ⟨kn, hk, ek, ec, ik⟩ := gc_mi a1 b1
  have hq := Q.1.1 kn (by omega)
  have h109 : w 109 kn = w (gp_ma (q kn)) 6 := (Q.2 kn hk).1.2.2.1.trans (Q.2 kn hk).2.1.2.2.1.symm
  have h01 : w (gp_ma (q kn)) 6 = 0 ∨ w (gp_ma (q kn)) 6 = 1 := by rw [(Q.2 kn hk).2.1.2.2.1]; exact (Q.2 kn hk).2.2
  refine And.intro ik ⟨_, rfl, ?_⟩
  rw [ec]
  (repeat refine gp_gc [] od_Gp_widths rfl rfl ?_)
  refine sp_Wi_order (d := d) (N := N) (TL := (D kn).2.2.2.2.2.2) (rk := gf_rkN w k N (D kn).2.2.2.2.2.2) hq Jb.1 hN (Q.2 kn hk).2.1.2.2.2.2.2.2 (fun a b ha haN eab => ?_) (fun W s es hs hO h80 hrow => ?_)
  · unfold gf_rkN
    have hb : N / a = b := by rw [eab]; exact Nat.mul_div_cancel_left b (by omega)
    rw [hb, gq_edges (k := k) Jb eab.symm (by omega) (by rw [ec]; exact h109) h01]
  have h1 := h1 kn W s ek hk b2 es (gO_R hO)
  (repeat refine gp_gc [] od_Gp_widths rfl rfl ?_)
  by_cases c0 : what = 0
  · rw [if_pos c0, ← h80] at h1
    refine gb1_ne_f c0 ?_
    (repeat refine gp_gc [] od_Gp_widths rfl rfl ?_)
    exact h1
  rw [if_neg c0] at h1
  refine gb1_ne_t c0 ?_
  (repeat refine gp_gc [] od_Gp_widths rfl rfl ?_)
  rw [h80]
  by_cases c1 : what ≤ nI s.1
  · rw [if_pos c1] at h1
    obtain ⟨p, hp, ep⟩ : ∃ p : Nat, p < s.1 ∧ what = nI (p + 1) := by
      obtain ⟨j, hj, e⟩ := nI_of (Int32.not_lt.mpr b2)
      rw [e] at c1 c0
      have c1 := (nI_leI hj (by omega)).mp c1
      have j0 : j ≠ 0 := fun z => c0 (by rw [z]; rfl)
      exact ⟨j - 1, by omega, by rw [e]; congr 1; omega⟩
    have es1 : what - 1 = nI p := by rw [ep]; exact nI_pred p
    have cs : (what - 1).toNatClampNeg = p := by rw [es1]; exact nI_clamp (by omega)
    rw [cs, ← hrow p hp] at h1
    refine gb_gt_f (Int32.not_lt.mpr c1) ?_
    (repeat refine gp_gc [] od_Gp_widths rfl rfl ?_)
    refine And.intro (show vp_in (what - 1) 24 by rw [es1]; exact vp_in_nI (by omega) (by decide)) ?_
    rw [show (what - Int32.ofInt 1).toNatClampNeg = p from cs]
    (repeat refine gp_gc [] od_Gp_widths rfl rfl ?_)
    exact h1
  · rw [if_neg c1] at h1
    refine gb_gt_t (Int32.not_le.mp c1) ?_
    (repeat refine gp_gc [] od_Gp_widths rfl rfl ?_)
    exact h1
end

end
