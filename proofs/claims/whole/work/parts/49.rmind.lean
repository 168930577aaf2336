section
variable {l : Launch} {G : gp_G} {d : Nat} {w : Nat → Nat → Int32} {u : Int64 × (Nat → Int64)} {q : Nat → Nat} {K : Option Value → gp_H → Prop}
/-! ===== the reference's methods: mind ===== -/
def gy_D0 : gy_D := (0, 0, 0, 0, false, [], none)
def gy_text (tp : Nat → Nat) (n : Nat) : (Nat × Nat) ⊕ gy_D := gy_tx (gx_kd tp n) (gx_nu tp n) 600 0 gy_D0
theorem gf_seg_mv {f g : Nat → Int32} {k : Nat} (h : ∀ x, x < 1020 → g (1020 * k + x) = f (6120 + x)) : ∀ {L : gf_L} {i : Nat}, i + L.length ≤ 510 → gf_seg f 6 i L → gf_seg g k i L
  | [], _, _, _ => trivial
  | (op, v) :: L, i, hi, hs => by
    simp only [List.length_cons] at hi
    refine ⟨?_, fun z => ?_, hs.2.2.1, gf_seg_mv h (by omega) hs.2.2.2⟩
    · rw [h _ (by omega)]
      exact hs.1
    · rw [Nat.add_assoc, h _ (by omega)]
      exact hs.2.1 z
theorem gf_seg_eq {f g : Nat → Int32} {k : Nat} (h : ∀ x, x < 1020 → g (1020 * k + x) = f (1020 * k + x)) : ∀ {L : gf_L} {i : Nat}, i + L.length ≤ 510 → gf_seg f k i L → gf_seg g k i L
  | [], _, _, _ => trivial
  | (op, v) :: L, i, hi, hs => by
    simp only [List.length_cons] at hi
    refine ⟨?_, fun z => ?_, hs.2.2.1, gf_seg_eq h (by omega) hs.2.2.2⟩
    · rw [h _ (by omega)]
      exact hs.1
    · rw [Nat.add_assoc, h _ (by omega), ← Nat.add_assoc]
      exact hs.2.1 z
/-- mind k, as the reference keeps it -/
def gm_R (w : Nat → Nat → Int32) (k : Nat) (D : gy_D) : Prop := w 107 k = D.2.1 ∧ w 108 k = D.2.2.1 ∧ w 109 k = D.2.2.2.1 ∧ gf_mind w k D.2.2.2.2.2.1 ∧ gf_try w k D.2.2.2.2.2.2
def gm_eq (w W : Nat → Nat → Int32) (k : Nat) : Prop := (∀ b, (107 ≤ b ∧ b ≤ 113) ∨ b = 121 ∨ b = 122 → W b k = w b k) ∧ (∀ b, 114 ≤ b → b ≤ 116 → ∀ i, i < 16 → W b (16 * k + i) = w b (16 * k + i)) ∧ ∀ i, i < 1020 → W 117 (1020 * k + i) = w 117 (1020 * k + i)
theorem gm_prs_eq {w W : Nat → Nat → Int32} {k : Nat} (h : gm_eq w W k) : ∀ (PL : List (gf_L × gf_L)) (i : Nat), i + PL.length ≤ 16 → gf_prs w k i PL → gf_prs W k i PL
  | [], _, _, _ => trivial
  | (E, B) :: t, i, hi, hp => by
    simp only [List.length_cons] at hi
    obtain ⟨⟨a, a1, a2, a3, a4, a5, a6⟩, p1, p2, p3⟩ := hp
    refine ⟨⟨a, ?_, ?_, ?_, a4, gf_seg_eq h.2.2 (by omega) a5, gf_seg_eq h.2.2 (by omega) a6⟩, p1, p2, gm_prs_eq h t (i + 1) (by omega) p3⟩
    · rw [h.2.1 114 (by decide) (by decide) _ (by omega), a1]
    · rw [h.2.1 115 (by decide) (by decide) _ (by omega), a2]
    · rw [h.2.1 116 (by decide) (by decide) _ (by omega), a3]
theorem gm_R_eq {w W : Nat → Nat → Int32} {k : Nat} {D : gy_D} (h : gm_eq w W k) (hR : gm_R w k D) : gm_R W k D := by
  obtain ⟨r1, r2, r3, ⟨r4, r5, r6⟩, r7⟩ := hR
  refine ⟨(h.1 107 (by omega)).trans r1, (h.1 108 (by omega)).trans r2, (h.1 109 (by omega)).trans r3, ⟨(h.1 110 (by omega)).trans r4, r5, gm_prs_eq h _ 0 (by omega) r6⟩, ?_⟩
  cases eT : D.2.2.2.2.2.2 with
  | none =>
    rw [eT] at r7
    exact (h.1 122 (by omega)).trans r7
  | some L =>
    rw [eT] at r7
    obtain ⟨t0, a, t1, t2, t3, t4, t5⟩ := r7
    exact ⟨(h.1 122 (by omega)).trans t0, a, (h.1 112 (by omega)).trans t1, (h.1 113 (by omega)).trans t2, t3, gf_seg_eq h.2.2 (by omega) t4, t5⟩
theorem gm_prs_mv {w W : Nat → Nat → Int32} {k c : Nat} (h : gm_tk w W k) (hc : c ≤ 510) : ∀ (PL : List (gf_L × gf_L)) (i : Nat), i + PL.length ≤ 16 → (∀ p, p ∈ PL → gy_wE 3 p.1 ∧ (p.2 = [] ∨ gy_wB 22 p.2)) → gy_prs w c i PL → gf_prs W k i PL
  | [], _, _, _, _ => trivial
  | (E, B) :: t, i, hi, hw, hp => by
    simp only [List.length_cons] at hi
    obtain ⟨⟨a, a1, a2, a3, a4, a5, a6⟩, p3⟩ := hp
    have hw1 := hw (E, B) List.mem_cons_self
    refine ⟨⟨a, ?_, ?_, ?_, by omega, gf_seg_mv h.2.2.1.1 (by omega) a5, gf_seg_mv h.2.2.1.1 (by omega) a6⟩, gf_wfE_of (by decide) hw1.1, hw1.2.imp id (gf_wfB_of (by decide)), gm_prs_mv h hc t (i + 1) (by omega) (fun p hp => hw p (List.mem_cons_of_mem _ hp)) p3⟩
    · rw [(h.2.1 114 (by decide) (by decide)).1 _ (by omega), a1]
    · rw [(h.2.1 115 (by decide) (by decide)).1 _ (by omega), a2]
    · rw [(h.2.1 116 (by decide) (by decide)).1 _ (by omega), a3]
theorem gm_R_mv {w W : Nat → Nat → Int32} {k c : Nat} {D : gy_D} (h : gm_tk w W k) (hc : c ≤ 510) (hw : gy_wD D) (hD : gy_DR w c D) : gm_R W k D := by
  obtain ⟨d1, d2, d3, d4, d5, d6, d7, d8, d9, d10⟩ := hD
  refine ⟨(h.1 107 (by omega)).1.trans d3, (h.1 108 (by omega)).1.trans d4, (h.1 109 (by omega)).1.trans d5, ⟨(h.1 110 (by omega)).1.trans d7, d8, gm_prs_mv h hc _ 0 (by omega) hw.1 d9⟩, ?_⟩
  cases eT : D.2.2.2.2.2.2 with
  | none =>
    rw [eT] at d10
    exact (h.1 122 (by omega)).1.trans d10
  | some L =>
    rw [eT] at d10
    obtain ⟨t0, a, t1, t2, t3, t4⟩ := d10
    exact ⟨(h.1 122 (by omega)).1.trans t0, a, (h.1 112 (by omega)).1.trans t1, (h.1 113 (by omega)).1.trans t2, by omega, gf_seg_mv h.2.2.1.1 (by omega) t4, gf_wfE_of (by decide) (hw.2 L eT)⟩
theorem gm_eq_Q {w W : Nat → Nat → Int32} {k : Nat} (hk : k < 6) (h : gy_Q w W) : gm_eq w W k := by
  refine ⟨fun b hb => ?_, fun b b1 b2 i hi => ?_, fun i hi => ?_⟩
  · refine h b k ?_
    unfold gy_in
    rcases (show k = 0 ∨ k = 1 ∨ k = 2 ∨ k = 3 ∨ k = 4 ∨ k = 5 by omega) with rfl | rfl | rfl | rfl | rfl | rfl <;> rcases (show b = 107 ∨ b = 108 ∨ b = 109 ∨ b = 110 ∨ b = 111 ∨ b = 112 ∨ b = 113 ∨ b = 121 ∨ b = 122 by omega) with rfl | rfl | rfl | rfl | rfl | rfl | rfl | rfl | rfl <;> rfl
  · refine h b _ ?_
    have e : Nat.ble 96 (16 * k + i) = false := by
      cases x : Nat.ble 96 (16 * k + i) with
      | false => rfl
      | true => have := Nat.ble_eq.mp x; omega
    unfold gy_in
    rcases (show b = 114 ∨ b = 115 ∨ b = 116 by omega) with rfl | rfl | rfl <;> rw [e] <;> rfl
  · refine h 117 _ ?_
    have e : Nat.ble 6120 (1020 * k + i) = false := by
      cases x : Nat.ble 6120 (1020 * k + i) with
      | false => rfl
      | true => have := Nat.ble_eq.mp x; omega
    unfold gy_in
    rw [e]
    rfl
theorem gm_eq_tk {w W : Nat → Nat → Int32} {k k' : Nat} (hk : k' ≠ k) (h : gm_tk w W k) : gm_eq w W k' := by
  refine ⟨fun b hb => (h.1 b hb).2 k' hk, fun b b1 b2 i hi => (h.2.1 b b1 b2).2 _ (by omega), fun i hi => h.2.2.1.2 _ (by omega)⟩
theorem gm_eq_t {w W X : Nat → Nat → Int32} {k : Nat} (h1 : gm_eq w W k) (h2 : gm_eq W X k) : gm_eq w X k :=
  ⟨fun b hb => (h2.1 b hb).trans (h1.1 b hb), fun b b1 b2 i hi => (h2.2.1 b b1 b2 i hi).trans (h1.2.1 b b1 b2 i hi), fun i hi => (h2.2.2 i hi).trans (h1.2.2 i hi)⟩
/-- what mind leaves as it was -/
def gm_F (w W : Nat → Nat → Int32) : Prop := (∀ b, b ≠ 95 → b < 107 ∨ 122 < b → W b = w b) ∧ ∀ k, gy_f k = false → k ≠ 33 → k ≠ 40 → k ≠ 42 → W 95 k = w 95 k
theorem gm_F_Q {w W : Nat → Nat → Int32} (h : gy_Q w W) : gm_F w W := by
  refine ⟨fun b h1 h2 => ?_, fun k hk _ _ _ => ?_⟩
  · funext x
    refine h b x ?_
    unfold gy_in
    have e1 : (b == 95) = false := by simpa using h1
    have e2 : (b == 121) = false := by simp; omega
    have e3 : (b == 122) = false := by simp; omega
    have e4 : (b == 117) = false := by simp; omega
    have e5 : (Nat.ble 107 b && Nat.ble b 113) = false := by
      cases x : (Nat.ble 107 b && Nat.ble b 113) with
      | false => rfl
      | true => rw [Bool.and_eq_true, Nat.ble_eq, Nat.ble_eq] at x; omega
    have e6 : (Nat.ble 114 b && Nat.ble b 116) = false := by
      cases x : (Nat.ble 114 b && Nat.ble b 116) with
      | false => rfl
      | true => rw [Bool.and_eq_true, Nat.ble_eq, Nat.ble_eq] at x; omega
    rw [e1, e2, e3, e4, e5, e6]
    rfl
  · refine h 95 k ?_
    unfold gy_in
    rw [hk]
    rfl
theorem gm_F_t {w W X : Nat → Nat → Int32} (h1 : gm_F w W) (h2 : gm_F W X) : gm_F w X := ⟨fun b a c => (h2.1 b a c).trans (h1.1 b a c), fun k a b c e => (h2.2 k a b c e).trans (h1.2 k a b c e)⟩
theorem gm_F_95 {w W : Nat → Nat → Int32} {k : Nat} {x : Int32} (h : gm_F w W) (hk : k = 33 ∨ k = 40 ∨ k = 42 ∨ gy_f k = true) : gm_F w (gw W 95 k x) := by
  refine ⟨fun b h1 h2 => (gw_ne h1).trans (h.1 b h1 h2), fun k' a1 a2 a3 a4 => ?_⟩
  rw [gw_at, if_neg (fun z => ?_)]
  · exact h.2 k' a1 a2 a3 a4
  · subst z
    rcases hk with e | e | e | e
    · exact a2 e
    · exact a3 e
    · exact a4 e
    · rw [e] at a1; exact absurd a1 (by decide)
theorem gm_F_6 {w W : Nat → Nat → Int32} {b k : Nat} {x : Int32} (h : gm_F w W) (hb : 107 ≤ b ∧ b ≤ 122) : gm_F w (gw W b k x) :=
  ⟨fun c h1 h2 => (gw_ne (by omega)).trans (h.1 c h1 h2), fun k' a1 a2 a3 a4 => by rw [gw_ne (by omega)]; exact h.2 k' a1 a2 a3 a4⟩
def gm_z (w : Nat → Nat → Int32) : Nat → Nat → Int32 := gw (gw (gw (gw (gw (gw (gw (gw (gw (gw w 95 38 0) 95 34 0) 95 32 0) 107 6 0) 108 6 0) 109 6 0) 110 6 0) 111 6 0) 121 6 0) 122 6 0
theorem gy_line_e {kd nm : Nat → Nat} {D D' : gy_D} {j j' : Nat} (h : gy_line kd nm D j = .inr (j', D')) : kd (j' - 1) = 59 := by
  unfold gy_line at h
  split at h
  · simp at h
  · split at h
    · simp at h
    · unfold gy_semi at h
      split at h
      · simp at h
      · split at h
        · rename_i c1
          simp only [Sum.inr.injEq, Prod.mk.injEq] at h
          obtain ⟨rfl, -⟩ := h
          rw [Nat.add_sub_cancel]
          exact c1
        · simp at h
section
variable {tp : Nat → Nat} {n : Nat}
theorem gm_z_Q (w : Nat → Nat → Int32) : gy_Q w (gm_z w) := gy_Qw (gy_Qw (gy_Qw (gy_Qw (gy_Qw (gy_Qw (gy_Qw (gy_Qw (gy_Qw (gy_Qw (gy_Qr w) rfl) rfl) rfl) rfl) rfl) rfl) rfl) rfl) rfl) rfl
set_option maxRecDepth 100000 in
theorem sp_Rf_mind {k : Int32} (T : gx_T w tp n) (h0 : ¬ (0 ≤ k ∧ k ≤ 5) → K (some (.int (-1))) (gv (gw (gw (gw (gw w 95 38 0) 95 33 0) 95 40 0) 95 42 (-1)) u q)) (hF : ∀ kn W e p, k = nI kn → kn < 6 → gy_text tp n = .inl (e, p) → gm_F w W → (∀ k', k' < 6 → gm_eq w W k') → W 95 33 = 0 → W 95 40 = nI e → W 95 42 = nI (gx_sp tp n p) → K (some (.int (-1))) (gv W u q)) (hS : ∀ kn W D, k = nI kn → kn < 6 → gy_text tp n = .inr D → gm_F w W → (∀ k', k' < 6 → k' ≠ kn → gm_eq w W k') → gm_R W kn D → gy_wD D → W 95 33 = 0 → W 95 40 = 0 → W 95 42 = -1 → K (some (.int (nI D.1))) (gv W u q)) : gp_Cal l G (d + 41) m_Rf_mind [.ref 95, .int k] (gv w u q) K := by
  have hn := T.2.1
  have i6 : vp_in (nI 6) 7 := vp_in_nI (by decide) (by decide)
  refine gp_enter od_Rf_mind rfl ?_
  (repeat refine gp_gc [102] od_Rf_mind rfl rfl ?_)
  refine sp_Rf_isMind (d := d + 39) (w := gw w 95 38 0) (fun c1 c2 => ?_) (fun c0 => ?_)
  rotate_left
  · (repeat refine gp_gc [102] od_Rf_mind rfl rfl ?_)
    refine gb1_ne_f rfl ?_
    (repeat refine gp_gc [102] od_Rf_mind rfl rfl ?_)
    exact h0 c0
  obtain ⟨kn, hk, ek⟩ := nI_of2 (n := 5) (x := k) (M := 5) rfl (Int32.not_lt.mpr c1) c2
  subst ek
  have ik : vp_in (nI kn) 7 := vp_in_nI (by omega) (by decide)
  have ck : (nI kn).toNatClampNeg = kn := nI_clamp (by omega)
  have k121F : ∀ (W : Nat → Nat → Int32) (e p : Nat), gy_text tp n = .inl (e, p) → gy_Q w W → W 95 38 = nI e → W 95 39 = nI (gx_sp tp n p) → gp_Go l G (d + 41) m_Rf_mind K 121 [some (.ref 95), some (.int (nI kn)), some (.int 0)] [] (gv W u q) 0 0 := by
    intro W e p et Q k1 k2
    refine gp_go od_Rf_mind rfl ?_
    (repeat refine gp_gc [102] od_Rf_mind rfl rfl ?_)
    refine gb1_eq_t rfl ?_
    (repeat refine gp_gc [102] od_Rf_mind rfl rfl ?_)
    refine gb1_ne_f rfl ?_
    (repeat refine gp_gc [102] od_Rf_mind rfl rfl ?_)
    refine hF kn (gw (gw (gw W 95 33 0) 95 40 (W 95 38)) 95 42 (W 95 39)) e p rfl (by omega) et (gm_F_95 (gm_F_95 (gm_F_95 (gm_F_Q Q) (by decide)) (by decide)) (by decide)) (fun k' hk' => ?_) rfl k1 k2
    have q1 := gm_eq_Q hk' Q
    exact ⟨fun b hb => by rw [gw_ne (by omega), gw_ne (by omega), gw_ne (by omega)]; exact q1.1 b hb, fun b b1 b2 i hi => by rw [gw_ne (by omega), gw_ne (by omega), gw_ne (by omega)]; exact q1.2.1 b b1 b2 i hi, fun i hi => q1.2.2 i hi⟩
  have k121S : ∀ (W : Nat → Nat → Int32) (D : gy_D) (c : Nat), gy_text tp n = .inr D → gy_Q w W → c ≤ 510 → gy_DR W c D → gy_wD D → W 95 38 = 0 → gp_Go l G (d + 41) m_Rf_mind K 121 [some (.ref 95), some (.int (nI kn)), some (.int 1)] [] (gv W u q) 0 0 := by
    intro W D c et Q hc hD hw k1
    have k156 : ∀ X, X = gw (gw (gw W 95 33 0) 95 40 (W 95 38)) 95 42 (-1) → gp_Go l G (d + 41) m_Rf_mind K 156 [some (.ref 95), some (.int (nI kn)), some (.int 1)] [] (gv X u q) 0 0 := by
      intro X eX
      have e1 : ∀ b, b ≠ 95 → X b = W b := fun b hb => by rw [eX, gw_ne hb, gw_ne hb, gw_ne hb]
      have DX : gy_DR X c D := by
        obtain ⟨d1, d2, d3, d4, d5, d6, d7, d8, d9, d10⟩ := hD
        rw [← e1 111 (by decide)] at d1
        rw [← e1 107 (by decide)] at d3
        rw [← e1 108 (by decide)] at d4
        rw [← e1 109 (by decide)] at d5
        rw [← e1 121 (by decide)] at d6
        rw [← e1 110 (by decide)] at d7
        refine ⟨d1, d2, d3, d4, d5, d6, d7, d8, ?_, ?_⟩
        · exact gy_prs_fr (W := X) (m := D.2.2.2.2.2.1.length) (fun b x1 x2 x _ => by rw [e1 b (by omega)]) (fun x _ => by rw [e1 117 (by decide)]) (Nat.le_refl _) _ 0 (by omega) d9
        · exact gy_trr_fr (W := X) (by rw [e1 122 (by decide)]) (by rw [e1 112 (by decide)]) (by rw [e1 113 (by decide)]) (fun x _ => by rw [e1 117 (by decide)]) (Nat.le_refl _) _ d10
      have FX : gm_F w X := by rw [eX]; exact gm_F_95 (gm_F_95 (gm_F_95 (gm_F_Q Q) (by decide)) (by decide)) (by decide)
      have h7 : X 121 6 = 0 ∨ X 121 6 = 1 := by
        rw [DX.2.2.2.2.2.1]
        split
        · exact Or.inr rfl
        · exact Or.inl rfl
      have h8 : X 122 6 = 0 ∨ X 122 6 = 1 := by
        have d10 := DX.2.2.2.2.2.2.2.2.2
        cases eT : D.2.2.2.2.2.2 with
        | none => rw [eT] at d10; exact Or.inl d10
        | some L => rw [eT] at d10; exact Or.inr d10.1
      refine gp_go od_Rf_mind rfl ?_
      (repeat refine gp_gc [156] od_Rf_mind rfl rfl ?_)
      refine sp_Rf_takesMind (d := d + 40) (k := kn) (by omega) h7 h8 (fun Y hY => ?_)
      (repeat refine gp_gc [156] od_Rf_mind rfl rfl ?_)
      refine And.intro ik ?_
      (repeat refine gp_gc [156] od_Rf_mind rfl rfl ?_)
      have e5 : Y 111 (nI kn).toNatClampNeg = nI D.1 := by rw [ck, (hY.1 111 (by omega)).1]; exact DX.1
      rw [e5]
      have e95 : Y 95 = X 95 := hY.2.2.2 95 (by omega)
      refine hS kn Y D rfl (by omega) et (gm_F_t FX ⟨fun b b1 b2 => hY.2.2.2 b (by omega), fun k _ _ _ _ => by rw [e95]⟩) (fun k' hk' hne => gm_eq_t ?_ (gm_eq_tk hne hY)) (gm_R_mv hY hc hw DX) hw ?_ ?_ ?_
      · have q1 := gm_eq_Q hk' Q
        refine ⟨fun b hb => by rw [e1 b (by omega)]; exact q1.1 b hb, fun b b1 b2 i hi => by rw [e1 b (by omega)]; exact q1.2.1 b b1 b2 i hi, fun i hi => by rw [e1 117 (by decide)]; exact q1.2.2 i hi⟩
      · rw [e95, eX]; rfl
      · rw [e95, eX]; exact k1
      · rw [e95, eX]; rfl
    refine gp_go od_Rf_mind rfl ?_
    (repeat refine gp_gc [156] od_Rf_mind rfl rfl ?_)
    refine gb1_eq_f (by decide) ?_
    (repeat refine gp_gc [156] od_Rf_mind rfl rfl ?_)
    refine gb1_ne_t (by decide) ?_
    exact k156 (gw (gw (gw W 95 33 0) 95 40 (W 95 38)) 95 42 (-1)) rfl
  have main : ∀ (f j c : Nat) (W : Nat → Nat → Int32) (D : gy_D) (dp : Int32), 600 ≤ f + j → gy_Q w W → gy_S tp n W j c dp → c ≤ j → (j = 0 ∨ gx_kd tp n (j - 1) ≠ 31) → gy_DR W c D → D.2.2.2.2.2.1.length ≤ D.1 → gy_wD D → gy_text tp n = gy_tx (gx_kd tp n) (gx_nu tp n) f j D → gp_Go l G (d + 41) m_Rf_mind K 102 [some (.ref 95), some (.int (nI kn)), some (.int 1)] [] (gv W u q) 0 0 := by
    intro f
    induction f with
    | zero =>
      intro j c W D dp hf Q S hc hjj hD hPL hw et
      exfalso
      rcases hjj with e | e
      · omega
      · have := gx_j_n e
        omega
    | succ f ih =>
      intro j c W D dp hf Q S hc hjj hD hPL hw et
      have t1 := gy_tk S (k := 31) (by decide)
      have hcb : c ≤ 510 := by
        rcases hjj with e | e
        · omega
        · have := gx_j_n e
          omega
      refine gp_go od_Rf_mind rfl ?_
      (repeat refine gp_gc [102, 121] od_Rf_mind rfl rfl ?_)
      refine gb1_eq_f (by decide) ?_
      (repeat refine gp_gc [102, 121] od_Rf_mind rfl rfl ?_)
      by_cases b : gx_kd tp n j = 31
      · refine gb1_eq_t (t1.mpr b) ?_
        exact k121S W D c (et.trans (if_pos b)) Q hcb hD hw S.2.2.2.2.2.2
      refine gb1_eq_f (fun z => b (t1.mp z)) ?_
      (repeat refine gp_gc [102, 121] od_Rf_mind rfl rfl ?_)
      refine gy_aLine (d := d) (gy_QT Q T) S hc hD hPL (fun W2 j2 D2 c2 el Q2 S2 hc2 hj2 hD2 hPL2 => ?_) (fun W2 e p el Q2 k1 k2 => ?_)
      · (repeat refine gp_gc [102, 121] od_Rf_mind rfl rfl ?_)
        refine ih j2 c2 W2 D2 (nI 0) (by omega) (gy_Qt Q Q2) S2 hc2 (Or.inr (by rw [gy_line_e el]; decide)) hD2 hPL2 (gy_wD_line (fun j hj => gx_nu_b hj) el hw) ?_
        rw [et]
        show (if gx_kd tp n j = 31 then _ else _) = _
        rw [if_neg b, el]
      · have e3 : gy_text tp n = .inl (e, p) := by
          rw [et]
          show (if gx_kd tp n j = 31 then _ else _) = _
          rw [if_neg b, el]
        (repeat refine gp_gc [121] od_Rf_mind rfl rfl ?_)
        refine gb1_eq_t rfl ?_
        exact k121F W2 e p e3 (gy_Qt Q Q2) k1 k2
  have s96 : gp_Go l G (d + 41) m_Rf_mind K 96 [some (.ref 95), some (.int (nI kn)), none] [] (gv (gm_z w) u q) 0 0 := by
    refine gp_go od_Rf_mind rfl ?_
    (repeat refine gp_gc [96, 102, 121] od_Rf_mind rfl rfl ?_)
    refine sp_Rf_next0 (d := d + 32) (w := gm_z w) (tp := tp) (n := n) (gy_QT (gm_z_Q w) T) (P := 0) rfl (Nat.zero_le n) (fun p' t' s' v' e1 e2 e3 e4 => ?_)
    (repeat refine gp_gc [96, 102, 121] od_Rf_mind rfl rfl ?_)
    have Qn : gy_Q w (gn (gm_z w) p' t' s' v') := gy_Qw (gy_Qw (gy_Qw (gy_Qw (gm_z_Q w) rfl) rfl) rfl) rfl
    refine main 600 0 0 (gn (gm_z w) p' t' s' v') gy_D0 (w 95 41) (by decide) Qn ⟨e1, e2, e3, e4, rfl, rfl, rfl⟩ (Nat.le_refl 0) (Or.inl rfl) ?_ (Nat.le_refl 0) ⟨fun p hp => absurd hp (List.not_mem_nil), fun L hL => by cases hL⟩ rfl
    exact ⟨rfl, by decide, rfl, rfl, rfl, rfl, rfl, by decide, trivial, rfl⟩
  (repeat refine gp_gc [96, 102, 121] od_Rf_mind rfl rfl ?_)
  refine gb1_ne_t (by decide) ?_
  (repeat refine gp_gc [96, 102, 121] od_Rf_mind rfl rfl ?_)
  refine And.intro i6 ?_
  (repeat refine gp_gc [96, 102, 121] od_Rf_mind rfl rfl ?_)
  refine And.intro i6 ?_
  (repeat refine gp_gc [96, 102, 121] od_Rf_mind rfl rfl ?_)
  refine And.intro i6 ?_
  (repeat refine gp_gc [96, 102, 121] od_Rf_mind rfl rfl ?_)
  refine And.intro i6 ?_
  (repeat refine gp_gc [96, 102, 121] od_Rf_mind rfl rfl ?_)
  refine And.intro i6 ?_
  (repeat refine gp_gc [96, 102, 121] od_Rf_mind rfl rfl ?_)
  refine And.intro i6 ?_
  (repeat refine gp_gc [96, 102, 121] od_Rf_mind rfl rfl ?_)
  refine And.intro i6 ?_
  (repeat refine gp_gc [96, 102, 121] od_Rf_mind rfl rfl ?_)
  exact s96
end

end
