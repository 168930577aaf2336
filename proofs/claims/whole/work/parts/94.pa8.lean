section
variable {l : Launch} {G : gp_G} {d : Nat} {w : Nat → Nat → Int32} {u : Int64 × (Nat → Int64)} {q : Nat → Nat} {K : Option Value → gp_H → Prop}
/-! ===== the class's parser: a line ===== -/
theorem gcD_up {w : Nat → Nat → Int32} {m c : Nat} {D : gy_D} (h : D.1 < 16) (H : gcD w m c D) : gcD w m c (D.1 + 1, D.2) := by
  obtain ⟨a1, a2, a3, a4, a5, a6, a7, a8, a9⟩ := H
  exact ⟨a1, a2, a3, a4, a5, Nat.le_succ_of_le a6, h, a8, a9⟩
theorem gpX_m {m e p j k : Nat} {W : Nat → Nat → Int32} {x : Int32} (hm : m < 7) (hj : j ≤ 4) (hk : 1 ≤ j ∨ k ≠ 9) (h : gpX m W e p) : gpX m (gw W (gp_ma m + j) k x) e p := by
  obtain ⟨h1, h2, h3, h4, c, h5, h6⟩ := h
  have a := gp_ma_55 hm j hj
  refine ⟨by rw [gw_ne (Ne.symm a)]; exact h1, h2, h3, by rw [gw_ne (Ne.symm a)]; exact h4, c, h5, ?_⟩
  by_cases z : j = 0
  · subst z
    rw [show gp_ma m + 0 = gp_ma m from rfl, gw_at, if_neg (by omega)]
    exact h6
  · rw [gw_ne (by omega)]
    exact h6
section
variable {kd nm : Nat → Nat} {j j1 j2 : Nat} {E B : gf_L} {D : gy_D} {x : Nat × Nat}
theorem gy_pr_0 (e : gy_E kd nm j = .inl x) : gy_pr kd nm j = .inl x := by
  unfold gy_pr
  rw [e]
theorem gy_pr_1 (e : gy_E kd nm j = .inr (j1, E)) (c : kd j1 ≠ 5) : gy_pr kd nm j = .inr (j1, E, []) := by
  unfold gy_pr
  rw [e]
  exact if_neg c
theorem gy_pr_2 (e : gy_E kd nm j = .inr (j1, E)) (c : kd j1 = 5) (e2 : gy_B kd nm (j1 + 1) = .inr (j2, B)) : gy_pr kd nm j = .inr (j2, E, B) := by
  unfold gy_pr
  rw [e]
  show (if kd j1 = 5 then _ else _) = _
  rw [if_pos c, e2]
theorem gy_pr_3 (e : gy_E kd nm j = .inr (j1, E)) (c : kd j1 = 5) (e2 : gy_B kd nm (j1 + 1) = .inl x) : gy_pr kd nm j = .inl x := by
  unfold gy_pr
  rw [e]
  show (if kd j1 = 5 then _ else _) = _
  rw [if_pos c, e2]
theorem gy_body_3 (c : kd j = 3) (e : gy_pr kd nm (j + 1) = .inr (j2, E, B)) : gy_body kd nm D j = .inr (j2, gy_addP D E B) := by
  unfold gy_body
  rw [if_pos c, e]
theorem gy_body_3x (c : kd j = 3) (e : gy_pr kd nm (j + 1) = .inl x) : gy_body kd nm D j = .inl x := by
  unfold gy_body
  rw [if_pos c, e]
theorem gy_body_4 (c : kd j = 4) (e : gy_E kd nm (j + 1) = .inr (j2, E)) : gy_body kd nm D j = .inr (j2, gy_addT D E) := by
  unfold gy_body
  rw [if_neg (by omega), if_pos c, e]
theorem gy_body_4x (c : kd j = 4) (e : gy_E kd nm (j + 1) = .inl x) : gy_body kd nm D j = .inl x := by
  unfold gy_body
  rw [if_neg (by omega), if_pos c, e]
theorem gy_body_n (c : kd j < 3) (c1 : kd (j + 1) = 30) (c2 : nm (j + 1) ≤ gy_mo (kd j)) : gy_body kd nm D j = .inr (j + 2, gy_addN D (kd j) (nm (j + 1))) := by
  unfold gy_body
  rw [if_neg (by omega), if_neg (by omega), if_pos c1, if_pos c2]
theorem gy_body_n2 (c : kd j < 3) (c1 : kd (j + 1) = 30) (c2 : ¬ nm (j + 1) ≤ gy_mo (kd j)) : gy_body kd nm D j = .inl (2, j + 1) := by
  unfold gy_body
  rw [if_neg (by omega), if_neg (by omega), if_pos c1, if_neg c2]
theorem gy_body_n1 (c : kd j < 3) (c1 : ¬ kd (j + 1) = 30) : gy_body kd nm D j = .inl (1, j + 1) := by
  unfold gy_body
  rw [if_neg (by omega), if_neg (by omega), if_neg c1]
end
section
variable {tp : Nat → Nat} {n t : Nat}
set_option maxRecDepth 100000 in
theorem gp_readLine {j c : Nat} {D : gy_D} (hm : q 6 < 7) (B : gpB w tp n t) (hO : gpO (q 6) t w j c) (hcj : c ≤ j) (hD : gcD w (q 6) c D) (h7 : w (gp_ma (q 6)) 7 = nI D.1) (hS : ∀ W j' D' c', gy_line (gx_kd tp n) (gx_nu tp n) D j = .inr (j', D') → j < j' → gLF (q 6) w W → gpO (q 6) t W j' c' → c' ≤ j' → gcD W (q 6) c' D' → W (gp_ma (q 6)) 7 = nI D'.1 → K none (gv W u q)) (hF : ∀ W e p, gy_line (gx_kd tp n) (gx_nu tp n) D j = .inl (e, p) → gLF (q 6) w W → gpX (q 6) W e (gx_sp tp n p) → K none (gv W u q)) : gp_Cal l G (d + 21) m_Pa_readLine [.ref 55] (gv w u q) K := by
  have o1 := hO.1
  have hjt := hO.2.1
  have ht := B.2.1
  have kb := gx_kd_b tp n j
  have a0 : gp_ma (q 6) ≠ 55 := gp_ma_55 hm 0 (by decide)
  have aj : ∀ j', j' ≤ 4 → 55 ≠ gp_ma (q 6) + j' := fun j' h => Ne.symm (gp_ma_55 hm j' h)
  have E1 := gp_expression (l := l) (G := G) (d := d + 18) (u := u) (q := q) (tp := tp) (n := n) (t := t) hm
  have C3 := gp_expect (l := l) (G := G) (u := u) (q := q) (tp := tp) (n := n) (t := t) (d := d + 19) (x := (Int8.ofInt 59).toInt32) (s := 59) hm rfl (by decide) (by decide)
  have C1 : gpC l G u q tp n t m_Pa_condition [.ref 55, .int (nI 0)] (d + 20) (gy_B (gx_kd tp n) (gx_nu tp n)) := gp_cond hm (gy_one_g _ _ 8) (gp_check hm 8 (Nat.le_refl 8) d)
  obtain ⟨P, eP⟩ : ∃ P, P = D.2.2.2.2.2.1.length := ⟨_, rfl⟩
  have hP : P ≤ D.1 := by rw [eP]; exact hD.2.2.2.2.2.1
  have hD16 : D.1 ≤ 16 := hD.2.2.2.2.2.2.1
  have e8 : w (gp_ma (q 6)) 8 = nI P := by rw [eP]; exact hD.2.2.2.2.1
  have lnF : gx_kd tp n j < 5 → ¬ (D.1 = 16 ∨ (gx_kd tp n j = 2 ∧ D.2.2.2.2.1 = true) ∨ (gx_kd tp n j = 4 ∧ D.2.2.2.2.2.2.isSome = true)) → gy_line (gx_kd tp n) (gx_nu tp n) D j = gy_semi (gx_kd tp n) (gy_body (gx_kd tp n) (gx_nu tp n) D j) := by
    intro h1 h2
    unfold gy_line
    rw [if_neg (by omega), if_neg h2]
  -- the sign behind a line
  have at271 : ∀ (W : Nat → Nat → Int32) (j1 c1 : Nat) (D1 : gy_D) (x2 x3 : Int32), gy_line (gx_kd tp n) (gx_nu tp n) D j = gy_semi (gx_kd tp n) (gy_body (gx_kd tp n) (gx_nu tp n) D j) → gy_body (gx_kd tp n) (gx_nu tp n) D j = .inr (j1, D1) → j < j1 → D1.1 = D.1 → gLF (q 6) w W → gpO (q 6) t W j1 c1 → c1 ≤ j1 → gcD W (q 6) c1 (D1.1 + 1, D1.2) → W (gp_ma (q 6)) 7 = nI (D.1 + 1) → gp_Go l G (d + 21) m_Pa_readLine K 271 [some (.ref 55), some (.int (nI (gx_kd tp n j))), some (.int x2), some (.int x3)] [] (gv W u q) 0 0 := by
    intro W j1 c1 D1 x2 x3 el eb hj e1 fL O1 l1 G1 z7
    rw [el, eb] at hS hF
    have BW := gLF_B hm fL B
    refine gp_go od_Pa_readLine rfl ?_
    (repeat refine gp_gc [56, 78, 109, 140, 156, 186, 218, 271] od_Pa_readLine rfl rfl ?_)
    refine C3.1 W j1 c1 _ BW O1 l1 (fun W2 j2 L e2 f2 O2 s2 => ?_) (fun W2 e p e2 f2 X2 => ?_)
    · unfold gy_exp at e2
      by_cases c2 : gx_kd tp n j1 = 59
      · rw [if_pos c2] at e2
        cases e2
        (repeat refine gp_gc [56, 78, 109, 140, 156, 186, 218, 271] od_Pa_readLine rfl rfl ?_)
        refine hS W2 (j1 + 1) (D1.1 + 1, D1.2) c1 (by show (if gx_kd tp n j1 = 59 then _ else _) = _; rw [if_pos c2]) (by omega) (gLF_t fL (gLF_E f2)) O2 (by omega) (gcD_E hm f2 (Nat.le_refl _) G1) ?_
        rw [f2.2.2.1 7 (by decide), z7, ← e1]
      · rw [if_neg c2] at e2
        cases e2
    · unfold gy_exp at e2
      by_cases c2 : gx_kd tp n j1 = 59
      · rw [if_pos c2] at e2
        cases e2
      · rw [if_neg c2] at e2
        cases e2
        (repeat refine gp_gc [56, 78, 109, 140, 156, 186, 218, 271] od_Pa_readLine rfl rfl ?_)
        exact hF W2 1 j1 (by show (if gx_kd tp n j1 = 59 then _ else _) = _; rw [if_neg c2]) (gLF_t fL (gLF_E f2)) X2
  have at271X : ∀ (W : Nat → Nat → Int32) (e p : Nat) (x2 x3 : Int32), gy_line (gx_kd tp n) (gx_nu tp n) D j = gy_semi (gx_kd tp n) (gy_body (gx_kd tp n) (gx_nu tp n) D j) → gy_body (gx_kd tp n) (gx_nu tp n) D j = .inl (e, p) → gLF (q 6) w W → gpX (q 6) W e (gx_sp tp n p) → gp_Go l G (d + 21) m_Pa_readLine K 271 [some (.ref 55), some (.int (nI (gx_kd tp n j))), some (.int x2), some (.int x3)] [] (gv W u q) 0 0 := by
    intro W e p x2 x3 el eb fL X1
    rw [el, eb] at hF
    refine gp_go od_Pa_readLine rfl ?_
    (repeat refine gp_gc [56, 78, 109, 140, 156, 186, 218, 271] od_Pa_readLine rfl rfl ?_)
    refine C3.2 W e _ _ (gLF_B hm fL B) X1 (fun W2 f2 X2 => ?_)
    (repeat refine gp_gc [56, 78, 109, 140, 156, 186, 218, 271] od_Pa_readLine rfl rfl ?_)
    exact hF W2 e p rfl (gLF_t fL (gLF_E f2)) X2
  -- behind the prices' steps
  have at186X : ∀ (W : Nat → Nat → Int32) (e p : Nat) (x2 : Int32), P < 16 → gy_line (gx_kd tp n) (gx_nu tp n) D j = gy_semi (gx_kd tp n) (gy_body (gx_kd tp n) (gx_nu tp n) D j) → gy_body (gx_kd tp n) (gx_nu tp n) D j = .inl (e, p) → gLF (q 6) w W → gpX (q 6) W e (gx_sp tp n p) → gp_Go l G (d + 21) m_Pa_readLine K 186 [some (.ref 55), some (.int (nI (gx_kd tp n j))), some (.int x2), some (.int (nI P))] [] (gv W u q) 0 0 := by
    intro W e p x2 hP16 el eb fL X1
    refine gp_go od_Pa_readLine rfl ?_
    (repeat refine gp_gc [56, 78, 109, 140, 156, 186, 218, 271] od_Pa_readLine rfl rfl ?_)
    refine gs_get (gv_mind hm) rfl rfl ?_
    (repeat refine gp_gc [56, 78, 109, 140, 156, 186, 218, 271] od_Pa_readLine rfl rfl ?_)
    refine gs_get (gv_mind hm) rfl rfl ?_
    (repeat refine gp_gc [56, 78, 109, 140, 156, 186, 218, 271] od_Pa_readLine rfl rfl ?_)
    refine gs_ast (gv_ma4 hm) (vp_in_nI hP16 (by decide)) ?_
    rw [gv_ma4_set hm]
    (repeat refine gp_gc [56, 78, 109, 140, 156, 186, 218, 271] od_Pa_readLine rfl rfl ?_)
    refine gs_get (gv_mind hm) rfl rfl ?_
    (repeat refine gp_gc [56, 78, 109, 140, 156, 186, 218, 271] od_Pa_readLine rfl rfl ?_)
    refine gs_put (gv_mind hm) rfl rfl ?_
    rw [gv_mind_set hm (by decide)]
    (repeat refine gp_gc [56, 78, 109, 140, 156, 186, 218, 271] od_Pa_readLine rfl rfl ?_)
    exact at271X _ e p _ _ el eb (gLF_m (j := 0) hm (by decide) (gLF_m (j := 4) hm (by decide) fL)) (gpX_m (j := 0) hm (by decide) (Or.inr (by decide)) (gpX_m (j := 4) hm (by decide) (Or.inl (by decide)) X1))
  have at156X : ∀ (W : Nat → Nat → Int32) (e p : Nat) (x2 : Int32), P < 16 → gy_line (gx_kd tp n) (gx_nu tp n) D j = gy_semi (gx_kd tp n) (gy_body (gx_kd tp n) (gx_nu tp n) D j) → gy_body (gx_kd tp n) (gx_nu tp n) D j = .inl (e, p) → gLF (q 6) w W → gpX (q 6) W e (gx_sp tp n p) → gp_Go l G (d + 21) m_Pa_readLine K 156 [some (.ref 55), some (.int (nI (gx_kd tp n j))), some (.int x2), some (.int (nI P))] [] (gv W u q) 0 0 := by
    intro W e p x2 hP16 el eb fL X1
    refine gp_go od_Pa_readLine rfl ?_
    (repeat refine gp_gc [56, 78, 109, 140, 156, 186, 218, 271] od_Pa_readLine rfl rfl ?_)
    refine gb1_ne_t (gpX_f X1) ?_
    (repeat refine gp_gc [56, 78, 109, 140, 156, 186, 218, 271] od_Pa_readLine rfl rfl ?_)
    exact at186X W e p _ hP16 el eb fL X1
  have at186 : ∀ (W : Nat → Nat → Int32) (j1 : Nat) (E Bc : gf_L) (x2 : Int32), P < 16 → D.1 < 16 → gx_kd tp n j = 3 → gy_line (gx_kd tp n) (gx_nu tp n) D j = gy_semi (gx_kd tp n) (gy_body (gx_kd tp n) (gx_nu tp n) D j) → gy_pr (gx_kd tp n) (gx_nu tp n) (j + 1) = .inr (j1, E, Bc) → gLF (q 6) w W → gpO (q 6) t W j1 (c + E.length + Bc.length) → gcD W (q 6) (c + E.length + Bc.length) (D.1 + 1, D.2) → W (gp_ma (q 6)) 7 = nI (D.1 + 1) → W (gp_ma (q 6) + 2) P = nI c → W (gp_ma (q 6) + 3) P = nI (c + E.length) → gc_seg (W (gp_ma (q 6) + 1)) c E → gc_seg (W (gp_ma (q 6) + 1)) (c + E.length) Bc → gp_Go l G (d + 21) m_Pa_readLine K 186 [some (.ref 55), some (.int (nI (gx_kd tp n j))), some (.int x2), some (.int (nI P))] [] (gv W u q) 0 0 := by
    intro W j1 E Bc x2 hP16 hD1 k3 el ep fL O1 G1 z7 p2 p3 sE sB
    have g := gy_pr_g ep
    have eb := gy_body_3 (D := D) k3 ep
    have cP : (nI P).toNatClampNeg = P := nI_clamp (by omega)
    have o9 := O1.2.2.2.2.1
    have b8 : W (gp_ma (q 6)) 8 = nI P := by rw [eP]; exact G1.2.2.2.2.1
    have i8 : nI P + Int32.ofInt 1 = nI (P + 1) := nI_1 P
    refine gp_go od_Pa_readLine rfl ?_
    (repeat refine gp_gc [56, 78, 109, 140, 156, 186, 218, 271] od_Pa_readLine rfl rfl ?_)
    refine gs_get (gv_mind hm) rfl rfl ?_
    (repeat refine gp_gc [56, 78, 109, 140, 156, 186, 218, 271] od_Pa_readLine rfl rfl ?_)
    refine gs_get (gv_mind hm) rfl rfl ?_
    (repeat refine gp_gc [56, 78, 109, 140, 156, 186, 218, 271] od_Pa_readLine rfl rfl ?_)
    refine gs_ast (gv_ma4 hm) (vp_in_nI hP16 (by decide)) ?_
    rw [gv_ma4_set hm, cP, o9]
    (repeat refine gp_gc [56, 78, 109, 140, 156, 186, 218, 271] od_Pa_readLine rfl rfl ?_)
    refine gs_get (gv_mind hm) rfl rfl ?_
    (repeat refine gp_gc [56, 78, 109, 140, 156, 186, 218, 271] od_Pa_readLine rfl rfl ?_)
    rw [gw_ne (show gp_ma (q 6) ≠ gp_ma (q 6) + 4 by omega), b8, i8]
    refine gs_put (gv_mind hm) rfl rfl ?_
    rw [gv_mind_set hm (by decide)]
    (repeat refine gp_gc [56, 78, 109, 140, 156, 186, 218, 271] od_Pa_readLine rfl rfl ?_)
    have n0 : ∀ k, k ≠ 8 → gw (gw W (gp_ma (q 6) + 4) P (nI (c + E.length + Bc.length))) (gp_ma (q 6)) 8 (nI (P + 1)) (gp_ma (q 6)) k = W (gp_ma (q 6)) k := fun k hk => by rw [gw_at, if_neg hk, gw_ne (by omega)]
    have nb : ∀ b, 1 ≤ b → b ≠ 4 → gw (gw W (gp_ma (q 6) + 4) P (nI (c + E.length + Bc.length))) (gp_ma (q 6)) 8 (nI (P + 1)) (gp_ma (q 6) + b) = W (gp_ma (q 6) + b) := fun b h1 h2 => by rw [gw_ne (by omega), gw_ne (by omega)]
    have n4 : ∀ x, gw (gw W (gp_ma (q 6) + 4) P (nI (c + E.length + Bc.length))) (gp_ma (q 6)) 8 (nI (P + 1)) (gp_ma (q 6) + 4) x = if x = P then nI (c + E.length + Bc.length) else W (gp_ma (q 6) + 4) x := fun x => by rw [gw_ne (by omega), gw_at]
    have n55 : gw (gw W (gp_ma (q 6) + 4) P (nI (c + E.length + Bc.length))) (gp_ma (q 6)) 8 (nI (P + 1)) 55 = W 55 := by rw [gw_ne (Ne.symm a0), gw_ne (aj 4 (by decide))]
    obtain ⟨b1, b2, b3, b4, b5, b6, b7, b8', b9⟩ := G1
    refine at271 _ j1 (c + E.length + Bc.length) (gy_addP D E Bc) _ _ el eb (by omega) rfl (gLF_m (j := 0) hm (by decide) (gLF_m (j := 4) hm (by decide) fL)) (gpO_55 n55 (n0 9 (by decide)) O1) (by omega) ⟨(n0 4 (by decide)).trans b1, (n0 5 (by decide)).trans b2, (n0 6 (by decide)).trans b3, (n0 12 (by decide)).trans b4, ?_, ?_, b7, ?_, gct_fr (fun k hk => n0 k (by omega)) (fun x _ => by rw [nb 1 (by decide) (by decide)]) (Nat.le_refl _) b9⟩ ((n0 7 (by decide)).trans z7)
    · show gw (gw W (gp_ma (q 6) + 4) P (nI (c + E.length + Bc.length))) (gp_ma (q 6)) 8 (nI (P + 1)) (gp_ma (q 6)) 8 = nI (D.2.2.2.2.2.1 ++ [(E, Bc)]).length
      rw [gw_at, if_pos rfl, eP, List.length_append]
      rfl
    · show (D.2.2.2.2.2.1 ++ [(E, Bc)]).length ≤ D.1 + 1
      rw [List.length_append, ← eP]
      show P + 1 ≤ D.1 + 1
      omega
    · refine gcp_add _ 0 (gcp_fr (p := P) (fun b h2 h4 x hx => ?_) (fun x _ => by rw [nb 1 (by decide) (by decide)]) (Nat.le_refl _) _ 0 (by show 0 + D.2.2.2.2.2.1.length ≤ P; omega) b8') ⟨c, ?_⟩
      · by_cases z : b = 4
        · subst z
          rw [n4, if_neg (by omega)]
        · rw [nb b (by omega) z]
      · show _ = nI c ∧ _
        rw [show 0 + D.2.2.2.2.2.1.length = P by omega, n4, if_pos rfl, nb 1 (by decide) (by decide), nb 2 (by decide) (by decide), nb 3 (by decide) (by decide)]
        exact ⟨p2, p3, rfl, Nat.le_refl _, sE, sB⟩
  have at156 : ∀ (W : Nat → Nat → Int32) (j1 : Nat) (E : gf_L) (x2 : Int32), P < 16 → D.1 < 16 → gx_kd tp n j = 3 → gy_line (gx_kd tp n) (gx_nu tp n) D j = gy_semi (gx_kd tp n) (gy_body (gx_kd tp n) (gx_nu tp n) D j) → gy_E (gx_kd tp n) (gx_nu tp n) (j + 1) = .inr (j1, E) → gLF (q 6) w W → gpO (q 6) t W j1 (c + E.length) → gcD W (q 6) (c + E.length) (D.1 + 1, D.2) → W (gp_ma (q 6)) 7 = nI (D.1 + 1) → W (gp_ma (q 6) + 2) P = nI c → W (gp_ma (q 6) + 3) P = nI (c + E.length) → gc_seg (W (gp_ma (q 6) + 1)) c E → gp_Go l G (d + 21) m_Pa_readLine K 156 [some (.ref 55), some (.int (nI (gx_kd tp n j))), some (.int x2), some (.int (nI P))] [] (gv W u q) 0 0 := by
    intro W j1 E x2 hP16 hD1 k3 el ee fL O1 G1 z7 p2 p3 sE
    have g := gy_E_g _ _ _ _ _ ee
    have BW := gLF_B hm fL B
    have kb1 := gx_kd_b tp n j1
    refine gp_go od_Pa_readLine rfl ?_
    (repeat refine gp_gc [56, 78, 109, 140, 156, 186, 218, 271] od_Pa_readLine rfl rfl ?_)
    refine gb1_ne_f O1.2.2.1 ?_
    (repeat refine gp_gc [56, 78, 109, 140, 156, 186, 218, 271] od_Pa_readLine rfl rfl ?_)
    refine sp_Pa_kind (d := d + 20) (w := W) BW (fun k _ hk => ?_)
    have hk := hk j1 O1.1 O1.2.1
    subst hk
    (repeat refine gp_gc [56, 78, 109, 140, 156, 186, 218, 271] od_Pa_readLine rfl rfl ?_)
    by_cases c5 : gx_kd tp n j1 = 5
    · have hj1 : j1 < t := gpB_lt BW (by omega)
      have g1 : gEF (q 6) W (gw W 55 6 (W 55 6 + 1)) (c + E.length) := gEF_55 hm (gEF_r W _) (by omega)
      refine gb_ne_f (by rw [c5]; rfl) ?_
      (repeat refine gp_gc [56, 78, 109, 140, 156, 186, 218, 271] od_Pa_readLine rfl rfl ?_)
      refine C1.1 (gw W 55 6 (W 55 6 + 1)) (j1 + 1) (c + E.length) _ (gEF_B hm g1 BW) (gpO_at hm O1 hj1) (by omega) (fun W2 j2 Bc e2 f2 O2 s2 => ?_) (fun W2 e p e2 f2 X2 => ?_)
      · have f12 := gEF_t g1 f2 (Nat.le_refl _)
        (repeat refine gp_gc [56, 78, 109, 140, 156, 186, 218, 271] od_Pa_readLine rfl rfl ?_)
        refine at186 W2 j2 E Bc _ hP16 hD1 k3 el (gy_pr_2 ee c5 e2) (gLF_t fL (gLF_E f12)) O2 (gcD_E hm f12 (by omega) G1) (by rw [f12.2.2.1 7 (by decide)]; exact z7) ?_ ?_ (gc_seg_cg f12.2.2.2 (Nat.le_refl _) sE) s2
        · rw [f12.1 _ (gp_ma_55 hm 2 (by decide)) (by omega) (by omega)]
          exact p2
        · rw [f12.1 _ (gp_ma_55 hm 3 (by decide)) (by omega) (by omega)]
          exact p3
      · (repeat refine gp_gc [56, 78, 109, 140, 156, 186, 218, 271] od_Pa_readLine rfl rfl ?_)
        exact at186X W2 e p _ hP16 el (gy_body_3x k3 (gy_pr_3 ee c5 e2)) (gLF_t fL (gLF_t (gLF_E g1) (gLF_E f2))) X2
    · refine gb_ne_t (fun z => c5 ((nI_eq (b := 5) (by omega) (by decide)).mp z)) ?_
      (repeat refine gp_gc [56, 78, 109, 140, 156, 186, 218, 271] od_Pa_readLine rfl rfl ?_)
      exact at186 W j1 E [] _ hP16 hD1 k3 el (gy_pr_1 ee c5) fL O1 G1 z7 p2 p3 sE trivial
  have at218 : ∀ (W : Nat → Nat → Int32) (x2 : Int32), gx_kd tp n j < 5 → gx_kd tp n j ≠ 3 → (gx_kd tp n j = 4 → D.2.2.2.2.2.2 = none) → j < t → D.1 < 16 → gy_line (gx_kd tp n) (gx_nu tp n) D j = gy_semi (gx_kd tp n) (gy_body (gx_kd tp n) (gx_nu tp n) D j) → gLF (q 6) w W → gpO (q 6) t W (j + 1) c → gcD W (q 6) c (D.1 + 1, D.2) → W (gp_ma (q 6)) 7 = nI (D.1 + 1) → gp_Go l G (d + 21) m_Pa_readLine K 218 [some (.ref 55), some (.int (nI (gx_kd tp n j))), some (.int x2), some (.int (nI P))] [] (gv W u q) 0 0 := by
    intro W x2 k5 k3 kT hj hD1 el fL O1 G1 z7
    have BW := gLF_B hm fL B
    refine gp_go od_Pa_readLine rfl ?_
    (repeat refine gp_gc [56, 78, 109, 140, 156, 186, 218, 271] od_Pa_readLine rfl rfl ?_)
    by_cases k4 : gx_kd tp n j = 4
    · have o9 := O1.2.2.2.2.1
      have kT := kT k4
      refine gb_ne_f (by rw [k4]; rfl) ?_
      (repeat refine gp_gc [56, 78, 109, 140, 156, 186, 218, 271] od_Pa_readLine rfl rfl ?_)
      refine gs_putZ (gv_mind hm) rfl rfl (Or.inr rfl) ?_
      rw [gv_mind_set hm (by decide)]
      (repeat refine gp_gc [56, 78, 109, 140, 156, 186, 218, 271] od_Pa_readLine rfl rfl ?_)
      refine gs_get (gv_mind hm) rfl rfl ?_
      (repeat refine gp_gc [56, 78, 109, 140, 156, 186, 218, 271] od_Pa_readLine rfl rfl ?_)
      refine gs_put (gv_mind hm) rfl rfl ?_
      rw [gv_mind_set hm (by decide), show gw W (gp_ma (q 6)) 13 (Int32.ofInt 1) (gp_ma (q 6)) 9 = nI c by rw [gw_at, if_neg (by decide)]; exact o9]
      (repeat refine gp_gc [56, 78, 109, 140, 156, 186, 218, 271] od_Pa_readLine rfl rfl ?_)
      obtain ⟨W2, eW2⟩ : ∃ W2, W2 = gw (gw W (gp_ma (q 6)) 13 (Int32.ofInt 1)) (gp_ma (q 6)) 10 (nI c) := ⟨_, rfl⟩
      have n0 : ∀ k, k ≠ 13 → k ≠ 10 → W2 (gp_ma (q 6)) k = W (gp_ma (q 6)) k := fun k h1 h2 => by rw [eW2, gw_at, if_neg h2, gw_at, if_neg h1]
      have n13 : W2 (gp_ma (q 6)) 13 = 1 := by rw [eW2, gw_at, if_neg (by decide), gw_at, if_pos rfl]; rfl
      have n10 : W2 (gp_ma (q 6)) 10 = nI c := by rw [eW2, gw_at, if_pos rfl]
      have nb : ∀ b, b ≠ gp_ma (q 6) → W2 b = W b := fun b h1 => by rw [eW2, gw_ne h1, gw_ne h1]
      have fL2 : gLF (q 6) w W2 := by rw [eW2]; exact gLF_m (j := 0) hm (by decide) (gLF_m (j := 0) hm (by decide) fL)
      rw [← eW2]
      refine E1.1 W2 (j + 1) c _ (gLF_B hm fL2 B) (gpO_55 (nb 55 (Ne.symm a0)) (n0 9 (by decide) (by decide)) O1) (by omega) (fun W3 j3 E e3 f3 O3 s3 => ?_) (fun W3 e p e3 f3 X3 => ?_)
      · have g := gy_E_g _ _ _ _ _ e3
        have eb := gy_body_4 (D := D) k4 e3
        have p9 := O3.2.2.2.2.1
        (repeat refine gp_gc [56, 78, 109, 140, 156, 186, 218, 271] od_Pa_readLine rfl rfl ?_)
        refine gs_get (gv_mind hm) rfl rfl ?_
        (repeat refine gp_gc [56, 78, 109, 140, 156, 186, 218, 271] od_Pa_readLine rfl rfl ?_)
        refine gs_put (gv_mind hm) rfl rfl ?_
        rw [gv_mind_set hm (by decide), p9]
        (repeat refine gp_gc [56, 78, 109, 140, 156, 186, 218, 271] od_Pa_readLine rfl rfl ?_)
        have m0 : ∀ k, k ≠ 9 → k ≠ 10 → k ≠ 11 → k ≠ 13 → gw W3 (gp_ma (q 6)) 11 (nI (c + E.length)) (gp_ma (q 6)) k = W (gp_ma (q 6)) k := fun k h1 h2 h3 h4 => by rw [gw_at, if_neg h3, f3.2.2.1 k h1, n0 k h4 h2]
        have mb : ∀ b, 1 ≤ b → gw W3 (gp_ma (q 6)) 11 (nI (c + E.length)) (gp_ma (q 6) + b) = W3 (gp_ma (q 6) + b) := fun b h1 => gw_ne (by omega)
        have mc : ∀ x, x < c → gw W3 (gp_ma (q 6)) 11 (nI (c + E.length)) (gp_ma (q 6) + 1) x = W (gp_ma (q 6) + 1) x := fun x hx => by rw [mb 1 (by decide), f3.2.2.2 x hx, nb _ (by omega)]
        obtain ⟨b1, b2, b3, b4, b5, b6, b7, b8, b9⟩ := G1
        refine at271 _ j3 (c + E.length) (gy_addT D E) _ _ el eb (by omega) rfl (gLF_m (j := 0) hm (by decide) (gLF_t fL2 (gLF_E f3))) (gpO_55 (gw_ne (Ne.symm a0)) (by rw [gw_at, if_neg (by decide)]) O3) (by omega) ⟨(m0 4 (by decide) (by decide) (by decide) (by decide)).trans b1, (m0 5 (by decide) (by decide) (by decide) (by decide)).trans b2, (m0 6 (by decide) (by decide) (by decide) (by decide)).trans b3, (m0 12 (by decide) (by decide) (by decide) (by decide)).trans b4, (m0 8 (by decide) (by decide) (by decide) (by decide)).trans b5, b6, b7, gcp_fr (p := P) (fun b h2 h4 x hx => ?_) mc (by omega) _ 0 (by show 0 + D.2.2.2.2.2.1.length ≤ P; omega) b8, ?_, c, ?_, ?_, Nat.le_refl _, ?_⟩ ((m0 7 (by decide) (by decide) (by decide) (by decide)).trans z7)
        · rw [mb b (by omega), f3.1 _ (gp_ma_55 hm b h4) (by omega) (by omega), nb _ (by omega)]
        · rw [gw_at, if_neg (by decide), f3.2.2.1 13 (by decide), n13]
        · rw [gw_at, if_neg (by decide), f3.2.2.1 10 (by decide), n10]
        · rw [gw_at, if_pos rfl]
        · rw [mb 1 (by decide)]
          exact s3
      · (repeat refine gp_gc [56, 78, 109, 140, 156, 186, 218, 271] od_Pa_readLine rfl rfl ?_)
        refine gs_get (gv_mind hm) rfl rfl ?_
        (repeat refine gp_gc [56, 78, 109, 140, 156, 186, 218, 271] od_Pa_readLine rfl rfl ?_)
        refine gs_put (gv_mind hm) rfl rfl ?_
        rw [gv_mind_set hm (by decide)]
        (repeat refine gp_gc [56, 78, 109, 140, 156, 186, 218, 271] od_Pa_readLine rfl rfl ?_)
        exact at271X _ e p _ _ el (gy_body_4x k4 e3) (gLF_m (j := 0) hm (by decide) (gLF_t fL2 (gLF_E f3))) (gpX_m (j := 0) hm (by decide) (Or.inr (by decide)) X3)
    · refine gb_ne_t (fun z => k4 ((nI_eq (b := 4) (by omega) (by decide)).mp z)) ?_
      (repeat refine gp_gc [56, 78, 109, 140, 156, 186, 218, 271] od_Pa_readLine rfl rfl ?_)
      refine gp_readNumber (d := d + 19) (w := W) hm (k := gx_kd tp n j) (by omega) BW O1 G1 (fun c1 c2 W2 fL2 O2 G2 e7 => ?_) (fun e he W2 fL2 X2 => ?_)
      · (repeat refine gp_gc [56, 78, 109, 140, 156, 186, 218, 271] od_Pa_readLine rfl rfl ?_)
        exact at271 W2 (j + 2) c (gy_addN D (gx_kd tp n j) (gx_nu tp n (j + 1))) _ _ el (gy_body_n (by omega) c1 c2) (by omega) rfl (gLF_t fL fL2) O2 (by omega) G2 (e7.trans z7)
      · (repeat refine gp_gc [56, 78, 109, 140, 156, 186, 218, 271] od_Pa_readLine rfl rfl ?_)
        refine at271X W2 e (j + 1) _ _ el ?_ (gLF_t fL fL2) X2
        rcases he with ⟨c1, c2⟩ | ⟨c1, c2, c3⟩
        · rw [c2]
          exact gy_body_n1 (by omega) c1
        · rw [c3]
          exact gy_body_n2 (by omega) c1 c2
  have at109 : ∀ (W : Nat → Nat → Int32) (x2 : Int32), gx_kd tp n j < 5 → (gx_kd tp n j = 4 → D.2.2.2.2.2.2 = none) → j < t → D.1 < 16 → gy_line (gx_kd tp n) (gx_nu tp n) D j = gy_semi (gx_kd tp n) (gy_body (gx_kd tp n) (gx_nu tp n) D j) → gLF (q 6) w W → gpO (q 6) t W (j + 1) c → gcD W (q 6) c (D.1 + 1, D.2) → W (gp_ma (q 6)) 7 = nI (D.1 + 1) → gp_Go l G (d + 21) m_Pa_readLine K 109 [some (.ref 55), some (.int (nI (gx_kd tp n j))), some (.int x2), some (.int (nI P))] [] (gv W u q) 0 0 := by
    intro W x2 k5 kT hj hD1 el fL O1 G1 z7
    have hP16 : P < 16 := by omega
    have cP : (nI P).toNatClampNeg = P := nI_clamp (by omega)
    refine gp_go od_Pa_readLine rfl ?_
    (repeat refine gp_gc [56, 78, 109, 140, 156, 186, 218, 271] od_Pa_readLine rfl rfl ?_)
    by_cases k3 : gx_kd tp n j = 3
    · have o9 := O1.2.2.2.2.1
      refine gb_ne_f (by rw [k3]; rfl) ?_
      (repeat refine gp_gc [56, 78, 109, 140, 156, 186, 218, 271] od_Pa_readLine rfl rfl ?_)
      refine gb_ge_f (nI_ge (b := 16) hP16 (by decide)) ?_
      (repeat refine gp_gc [56, 78, 109, 140, 156, 186, 218, 271] od_Pa_readLine rfl rfl ?_)
      refine gs_get (gv_mind hm) rfl rfl ?_
      (repeat refine gp_gc [56, 78, 109, 140, 156, 186, 218, 271] od_Pa_readLine rfl rfl ?_)
      refine gs_get (gv_mind hm) rfl rfl ?_
      (repeat refine gp_gc [56, 78, 109, 140, 156, 186, 218, 271] od_Pa_readLine rfl rfl ?_)
      refine gs_ast (gv_ma2 hm) (vp_in_nI hP16 (by decide)) ?_
      rw [gv_ma2_set hm, cP, o9]
      (repeat refine gp_gc [56, 78, 109, 140, 156, 186, 218, 271] od_Pa_readLine rfl rfl ?_)
      obtain ⟨W2, eW2⟩ : ∃ W2, W2 = gw W (gp_ma (q 6) + 2) P (nI c) := ⟨_, rfl⟩
      have nb : ∀ b, b ≠ gp_ma (q 6) + 2 → W2 b = W b := fun b h1 => by rw [eW2, gw_ne h1]
      have n2 : ∀ x, W2 (gp_ma (q 6) + 2) x = if x = P then nI c else W (gp_ma (q 6) + 2) x := fun x => by rw [eW2, gw_at]
      have fL2 : gLF (q 6) w W2 := by rw [eW2]; exact gLF_m (j := 2) hm (by decide) fL
      have G2 : gcD W2 (q 6) c (D.1 + 1, D.2) := by
        refine gcD_fr (fun k _ _ => by rw [nb _ (by omega)]) (fun x _ => by rw [nb _ (by omega)]) (fun b h2 h4 x hx => ?_) (Nat.le_refl c) G1
        have hx : x < P := by rw [eP]; exact hx
        by_cases z : b = 2
        · subst z
          rw [n2, if_neg (by omega)]
        · rw [nb _ (by omega)]
      rw [← eW2]
      refine E1.1 W2 (j + 1) c _ (gLF_B hm fL2 B) (gpO_55 (nb 55 (aj 2 (by decide))) (by rw [nb _ (by omega)]) O1) (by omega) (fun W3 j3 E e3 f3 O3 s3 => ?_) (fun W3 e p e3 f3 X3 => ?_)
      · have p9 := O3.2.2.2.2.1
        have G3 := gcD_E (c' := c + E.length) hm f3 (by omega) G2
        (repeat refine gp_gc [56, 78, 109, 140, 156, 186, 218, 271] od_Pa_readLine rfl rfl ?_)
        refine gp_go od_Pa_readLine rfl ?_
        (repeat refine gp_gc [56, 78, 109, 140, 156, 186, 218, 271] od_Pa_readLine rfl rfl ?_)
        refine gs_get (gv_mind hm) rfl rfl ?_
        (repeat refine gp_gc [56, 78, 109, 140, 156, 186, 218, 271] od_Pa_readLine rfl rfl ?_)
        refine gs_get (gv_mind hm) rfl rfl ?_
        (repeat refine gp_gc [56, 78, 109, 140, 156, 186, 218, 271] od_Pa_readLine rfl rfl ?_)
        refine gs_ast (gv_ma3 hm) (vp_in_nI hP16 (by decide)) ?_
        rw [gv_ma3_set hm, cP, p9]
        (repeat refine gp_gc [56, 78, 109, 140, 156, 186, 218, 271] od_Pa_readLine rfl rfl ?_)
        have nb3 : ∀ b, b ≠ gp_ma (q 6) + 3 → gw W3 (gp_ma (q 6) + 3) P (nI (c + E.length)) b = W3 b := fun b h1 => gw_ne h1
        refine at156 _ j3 E _ hP16 hD1 k3 el e3 (gLF_m (j := 3) hm (by decide) (gLF_t fL2 (gLF_E f3))) (gpO_55 (nb3 55 (aj 3 (by decide))) (by rw [nb3 _ (by omega)]) O3) ?_ ?_ ?_ ?_ ?_
        · refine gcD_fr (fun k _ _ => by rw [nb3 _ (by omega)]) (fun x _ => by rw [nb3 _ (by omega)]) (fun b h2 h4 x hx => ?_) (Nat.le_refl _) G3
          have hx : x < P := by rw [eP]; exact hx
          by_cases z : b = 3
          · subst z
            rw [gw_at, if_neg (by omega)]
          · rw [nb3 _ (by omega)]
        · rw [nb3 _ (by omega), f3.2.2.1 7 (by decide), nb _ (by omega)]
          exact z7
        · rw [nb3 _ (by omega), f3.1 _ (gp_ma_55 hm 2 (by decide)) (by omega) (by omega), n2, if_pos rfl]
        · rw [gw_at, if_pos rfl]
        · rw [nb3 _ (by omega)]
          exact s3
      · (repeat refine gp_gc [56, 78, 109, 140, 156, 186, 218, 271] od_Pa_readLine rfl rfl ?_)
        refine gp_go od_Pa_readLine rfl ?_
        (repeat refine gp_gc [56, 78, 109, 140, 156, 186, 218, 271] od_Pa_readLine rfl rfl ?_)
        refine gs_get (gv_mind hm) rfl rfl ?_
        (repeat refine gp_gc [56, 78, 109, 140, 156, 186, 218, 271] od_Pa_readLine rfl rfl ?_)
        refine gs_get (gv_mind hm) rfl rfl ?_
        (repeat refine gp_gc [56, 78, 109, 140, 156, 186, 218, 271] od_Pa_readLine rfl rfl ?_)
        refine gs_ast (gv_ma3 hm) (vp_in_nI hP16 (by decide)) ?_
        rw [gv_ma3_set hm]
        (repeat refine gp_gc [56, 78, 109, 140, 156, 186, 218, 271] od_Pa_readLine rfl rfl ?_)
        exact at156X _ e p _ hP16 el (gy_body_3x k3 (gy_pr_0 e3)) (gLF_m (j := 3) hm (by decide) (gLF_t fL2 (gLF_E f3))) (gpX_m (j := 3) hm (by decide) (Or.inl (by decide)) X3)
    · refine gb_ne_t (fun z => k3 ((nI_eq (b := 3) (by omega) (by decide)).mp z)) ?_
      (repeat refine gp_gc [56, 78, 109, 140, 156, 186, 218, 271] od_Pa_readLine rfl rfl ?_)
      exact at218 W _ k5 k3 kT hj hD1 el fL O1 G1 z7
  have at78 : ∀ (x2 : Int32), gx_kd tp n j < 5 → (gx_kd tp n j = 4 → D.2.2.2.2.2.2 = none) → j < t → D.1 < 16 → gy_line (gx_kd tp n) (gx_nu tp n) D j = gy_semi (gx_kd tp n) (gy_body (gx_kd tp n) (gx_nu tp n) D j) → gp_Go l G (d + 21) m_Pa_readLine K 78 [some (.ref 55), some (.int (nI (gx_kd tp n j))), some (.int x2), none] [] (gv w u q) 0 0 := by
    intro x2 k5 kT hj hD1 el
    have i7 : nI D.1 + Int32.ofInt 1 = nI (D.1 + 1) := nI_1 D.1
    refine gp_go od_Pa_readLine rfl ?_
    (repeat refine gp_gc [56, 78, 109, 140, 156, 186, 218, 271] od_Pa_readLine rfl rfl ?_)
    refine gs_get (gv_mind hm) rfl rfl ?_
    (repeat refine gp_gc [56, 78, 109, 140, 156, 186, 218, 271] od_Pa_readLine rfl rfl ?_)
    refine gs_get (gv_mind hm) rfl rfl ?_
    (repeat refine gp_gc [56, 78, 109, 140, 156, 186, 218, 271] od_Pa_readLine rfl rfl ?_)
    rw [h7, i7, e8]
    refine gs_put (gv_mind hm) rfl rfl ?_
    rw [gv_mind_set hm (by decide)]
    obtain ⟨W1, eW1⟩ : ∃ W1, W1 = gw w (gp_ma (q 6)) 7 (nI (D.1 + 1)) := ⟨_, rfl⟩
    have n0 : ∀ k, k ≠ 7 → W1 (gp_ma (q 6)) k = w (gp_ma (q 6)) k := fun k hk => by rw [eW1, gw_at, if_neg hk]
    have n7 : W1 (gp_ma (q 6)) 7 = nI (D.1 + 1) := by rw [eW1, gw_at, if_pos rfl]
    have nb : ∀ b, b ≠ gp_ma (q 6) → W1 b = w b := fun b hb => by rw [eW1, gw_ne hb]
    have fL : gLF (q 6) w W1 := by rw [eW1]; exact gLF_m (j := 0) hm (by decide) (gLF_r (q 6) w)
    rw [← eW1]
    (repeat refine gp_gc [56, 78, 109, 140, 156, 186, 218, 271] od_Pa_readLine rfl rfl ?_)
    have O1 : gpO (q 6) t W1 j c := gpO_55 (nb 55 (Ne.symm a0)) (n0 9 (by decide)) hO
    have e55 : ∀ b, b ≠ 55 → gw W1 55 6 (W1 55 6 + 1) b = W1 b := fun b hb => gw_ne hb
    refine at109 (gw W1 55 6 (W1 55 6 + 1)) _ k5 kT hj hD1 el ?_ (gpO_at hm O1 hj) (gcD_up hD1 (gcD_fr (fun k h1 _ => ?_) (fun x _ => ?_) (fun b h2 h4 x _ => ?_) (Nat.le_refl c) hD)) ?_
    · exact gLF_t fL ⟨fun b b1 _ => gw_ne b1, fun k k1 _ _ => by rw [gw_at, if_neg k1]⟩
    · rw [e55 _ a0, n0 k h1]
    · rw [e55 _ (gp_ma_55 hm 1 (by decide)), nb _ (by omega)]
    · rw [e55 _ (gp_ma_55 hm b h4), nb _ (by omega)]
    · rw [e55 _ a0, n7]
  have bad3 : ∀ (K' : Option Value → gp_H → Prop), gx_kd tp n j < 5 → (D.1 = 16 ∨ (gx_kd tp n j = 2 ∧ D.2.2.2.2.1 = true) ∨ (gx_kd tp n j = 4 ∧ D.2.2.2.2.2.2.isSome = true)) → (∀ W e p, gy_line (gx_kd tp n) (gx_nu tp n) D j = .inl (e, p) → gLF (q 6) w W → gpX (q 6) W e (gx_sp tp n p) → K' none (gv W u q)) → gp_Cal l G (d + 20) m_Pa_fail [.ref 55, .int (nI 3)] (gv w u q) K' := by
    intro K' k5 hb hK
    refine gpO_fail (d := d + 20) (w := w) hm B hO (e := 3) rfl (by decide) (by decide) (fun W1 f1 X1 => ?_)
    refine hK W1 3 j ?_ (gLF_E f1) X1
    unfold gy_line
    rw [if_neg (by omega), if_pos hb]
  have at56_1 : gx_kd tp n j < 5 → ((gx_kd tp n j = 2 ∧ D.2.2.2.2.1 = true) ∨ (gx_kd tp n j = 4 ∧ D.2.2.2.2.2.2.isSome = true)) → gp_Go l G (d + 21) m_Pa_readLine K 56 [some (.ref 55), some (.int (nI (gx_kd tp n j))), some (.int 1), none] [] (gv w u q) 0 0 := by
    intro k5 hb
    refine gp_go od_Pa_readLine rfl ?_
    (repeat refine gp_gc [56, 78, 109, 140, 156, 186, 218, 271] od_Pa_readLine rfl rfl ?_)
    refine gb1_ne_t (by decide) ?_
    (repeat refine gp_gc [56, 78, 109, 140, 156, 186, 218, 271] od_Pa_readLine rfl rfl ?_)
    refine bad3 _ k5 (Or.inr hb) (fun W e p el fL X => ?_)
    (repeat refine gp_gc [56, 78, 109, 140, 156, 186, 218, 271] od_Pa_readLine rfl rfl ?_)
    exact hF W e p el fL X
  have at56_0 : gx_kd tp n j < 5 → ¬ ((gx_kd tp n j = 2 ∧ D.2.2.2.2.1 = true) ∨ (gx_kd tp n j = 4 ∧ D.2.2.2.2.2.2.isSome = true)) → gp_Go l G (d + 21) m_Pa_readLine K 56 [some (.ref 55), some (.int (nI (gx_kd tp n j))), some (.int 0), none] [] (gv w u q) 0 0 := by
    intro k5 hb
    refine gp_go od_Pa_readLine rfl ?_
    (repeat refine gp_gc [56, 78, 109, 140, 156, 186, 218, 271] od_Pa_readLine rfl rfl ?_)
    refine gb1_ne_f rfl ?_
    (repeat refine gp_gc [56, 78, 109, 140, 156, 186, 218, 271] od_Pa_readLine rfl rfl ?_)
    refine gs_get (gv_mind hm) rfl rfl ?_
    (repeat refine gp_gc [56, 78, 109, 140, 156, 186, 218, 271] od_Pa_readLine rfl rfl ?_)
    by_cases c16 : D.1 < 16
    · refine gb_lt_t (by rw [h7]; exact nI_lt (b := 16) c16 (by decide)) ?_
      (repeat refine gp_gc [56, 78, 109, 140, 156, 186, 218, 271] od_Pa_readLine rfl rfl ?_)
      refine at78 _ k5 (fun k4 => ?_) (gpB_lt B (by omega)) c16 (lnF k5 (fun z => z.elim (fun z => by omega) hb))
      cases eT : D.2.2.2.2.2.2 with
      | none => rfl
      | some L => exact absurd (Or.inr ⟨k4, by rw [eT]; rfl⟩) hb
    · refine gb_lt_f (by rw [h7]; exact nI_nlt (b := 16) (by omega) (by omega)) ?_
      (repeat refine gp_gc [56, 78, 109, 140, 156, 186, 218, 271] od_Pa_readLine rfl rfl ?_)
      refine bad3 _ k5 (Or.inl (by omega)) (fun W e p el fL X => ?_)
      (repeat refine gp_gc [56, 78, 109, 140, 156, 186, 218, 271] od_Pa_readLine rfl rfl ?_)
      exact hF W e p el fL X
  have eT12 := hD.2.2.2.1
  have eT13 : w (gp_ma (q 6)) 13 = if D.2.2.2.2.2.2.isSome = true then 1 else 0 := by
    have := hD.2.2.2.2.2.2.2.2
    revert this
    cases D.2.2.2.2.2.2 with
    | none => exact fun z => z
    | some L => exact fun z => z.1
  refine gp_enter od_Pa_readLine rfl ?_
  (repeat refine gp_gc [56, 78, 109, 140, 156, 186, 218, 271] od_Pa_readLine rfl rfl ?_)
  refine sp_Pa_kind (d := d + 20) (w := w) B (fun k _ hk => ?_)
  have hk := hk j o1 hjt
  subst hk
  (repeat refine gp_gc [56, 78, 109, 140, 156, 186, 218, 271] od_Pa_readLine rfl rfl ?_)
  refine gb1_lt_f (nI_pos (by omega)) ?_
  (repeat refine gp_gc [56, 78, 109, 140, 156, 186, 218, 271] od_Pa_readLine rfl rfl ?_)
  by_cases k5 : gx_kd tp n j < 5
  rotate_left
  · refine gb_le_f (nI_ge (b := gx_kd tp n j) (a := 4) (by omega) (by omega)) ?_
    (repeat refine gp_gc [56, 78, 109, 140, 156, 186, 218, 271] od_Pa_readLine rfl rfl ?_)
    refine gpO_fail (d := d + 20) (w := w) hm B hO (e := 1) rfl (by decide) (by decide) (fun W1 f1 X1 => ?_)
    (repeat refine gp_gc [56, 78, 109, 140, 156, 186, 218, 271] od_Pa_readLine rfl rfl ?_)
    refine hF W1 1 j ?_ (gLF_E f1) X1
    unfold gy_line
    rw [if_pos (by omega)]
  refine gb_le_t (nI_le (b := 4) (by omega) (by decide)) ?_
  (repeat refine gp_gc [56, 78, 109, 140, 156, 186, 218, 271] od_Pa_readLine rfl rfl ?_)
  by_cases k2 : gx_kd tp n j = 2
  · refine gb_ne_f (by rw [k2]; rfl) ?_
    (repeat refine gp_gc [56, 78, 109, 140, 156, 186, 218, 271] od_Pa_readLine rfl rfl ?_)
    refine gs_get (gv_mind hm) rfl rfl ?_
    (repeat refine gp_gc [56, 78, 109, 140, 156, 186, 218, 271] od_Pa_readLine rfl rfl ?_)
    by_cases tw : D.2.2.2.2.1 = true
    · rw [if_pos tw] at eT12
      refine gb1_ne_t (by rw [eT12]; decide) ?_
      (repeat refine gp_gc [56, 78, 109, 140, 156, 186, 218, 271] od_Pa_readLine rfl rfl ?_)
      exact at56_1 k5 (Or.inl ⟨k2, tw⟩)
    · rw [if_neg tw] at eT12
      refine gb1_ne_f eT12 ?_
      (repeat refine gp_gc [56, 78, 109, 140, 156, 186, 218, 271] od_Pa_readLine rfl rfl ?_)
      refine gb_ne_t (by rw [k2]; decide) ?_
      (repeat refine gp_gc [56, 78, 109, 140, 156, 186, 218, 271] od_Pa_readLine rfl rfl ?_)
      exact at56_0 k5 (fun z => z.elim (fun z => tw z.2) (fun z => by omega))
  refine gb_ne_t (fun z => k2 ((nI_eq (b := 2) (by omega) (by decide)).mp z)) ?_
  (repeat refine gp_gc [56, 78, 109, 140, 156, 186, 218, 271] od_Pa_readLine rfl rfl ?_)
  by_cases k4 : gx_kd tp n j = 4
  · refine gb_ne_f (by rw [k4]; rfl) ?_
    (repeat refine gp_gc [56, 78, 109, 140, 156, 186, 218, 271] od_Pa_readLine rfl rfl ?_)
    refine gs_get (gv_mind hm) rfl rfl ?_
    (repeat refine gp_gc [56, 78, 109, 140, 156, 186, 218, 271] od_Pa_readLine rfl rfl ?_)
    by_cases ts : D.2.2.2.2.2.2.isSome = true
    · rw [if_pos ts] at eT13
      refine gb1_eq_f (by rw [eT13]; decide) ?_
      (repeat refine gp_gc [56, 78, 109, 140, 156, 186, 218, 271] od_Pa_readLine rfl rfl ?_)
      exact at56_1 k5 (Or.inr ⟨k4, ts⟩)
    · rw [if_neg ts] at eT13
      refine gb1_eq_t eT13 ?_
      (repeat refine gp_gc [56, 78, 109, 140, 156, 186, 218, 271] od_Pa_readLine rfl rfl ?_)
      exact at56_0 k5 (fun z => z.elim (fun z => by omega) (fun z => ts z.2))
  refine gb_ne_t (fun z => k4 ((nI_eq (b := 4) (by omega) (by decide)).mp z)) ?_
  (repeat refine gp_gc [56, 78, 109, 140, 156, 186, 218, 271] od_Pa_readLine rfl rfl ?_)
  exact at56_0 k5 (fun z => by omega)
end

end
