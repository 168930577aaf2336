section
variable {l : Launch} {G : gp_G} {d : Nat} {w : Nat → Nat → Int32} {u : Int64 × (Nat → Int64)} {q : Nat → Nat} {K : Option Value → gp_H → Prop}
/-! ===== what ties the class's marks and minds to the reference's ===== -/
def gJ_m (w : Nat → Nat → Int32) (n : Nat) : Prop :=
  w 1 3 = nI n ∧ w 95 0 = nI n ∧ n ≤ 16 ∧ w 1 4 = w 95 1 ∧ (∃ y : Nat, y ≤ 999 ∧ w 95 1 = nI y) ∧ w 95 13 = -1 ∧
  (∀ k, k < 7 → w 3 k = w 104 k ∧ ∃ h : Nat, h ≤ 99 ∧ w 104 k = nI h) ∧
  (∀ i, i < 16 → w (5 + i) 0 = w 96 i ∧ w (5 + i) 1 = w 97 i ∧ w (5 + i) 2 = w 98 i ∧ w (5 + i) 3 = w 99 i ∧ w (5 + i) 4 = w 100 i ∧ w (5 + i) 5 = w 101 i ∧ w (5 + i) 6 = w 102 i) ∧
  (∀ i, i < 16 → (∃ a : Nat, a < 7 ∧ w 96 i = nI a) ∧ (∃ a : Nat, a < 16 ∧ w 97 i = nI a) ∧ (∃ a : Nat, a ≤ 99 ∧ w 98 i = nI a) ∧ (∃ a : Nat, a ≤ 999 ∧ w 99 i = nI a) ∧ ∀ b, b < 32 → gb (w 101 i) b = true → b < i) ∧
  (∀ i, i < n → w (5 + i) 7 = w 103 (2 * i) ∧ w (5 + i) 8 = w 103 (2 * i + 1) ∧ (w 103 (2 * i) = -1 ∨ ∃ a : Nat, a < 16 ∧ w 103 (2 * i) = nI a) ∧ (w 103 (2 * i + 1) = -1 ∨ ∃ a : Nat, a < 16 ∧ w 103 (2 * i + 1) = nI a) ∧ ∃ a : Nat, 1 ≤ a ∧ a ≤ 99 ∧ w 98 i = nI a) ∧
  (∀ i, n ≤ i → i < 16 → w (5 + i) 7 = -1 ∧ w (5 + i) 8 = -1)
/-- cells that tell of marks -/
def gJ_mc (b : Nat) : Bool := (Nat.ble 5 b && Nat.ble b 20) || b == 3 || b == 1 || (Nat.ble 96 b && Nat.ble b 104)
theorem gJ_m_eq {w W : Nat → Nat → Int32} {n : Nat} (J : gJ_m w n) (h : ∀ b, gJ_mc b = true → W b = w b) (h0 : W 95 0 = w 95 0) (h1 : W 95 1 = w 95 1) (h13 : W 95 13 = w 95 13) : gJ_m W n := by
  have e : ∀ i, i < 16 → W (5 + i) = w (5 + i) := fun i hi => h _ (by simp [gJ_mc]; omega)
  obtain ⟨a1, a2, a3, a4, a5, a6, a7, a8, a9, a10, a11⟩ := J
  have e1 := h 1 rfl
  have e3 := h 3 rfl
  have e96 := h 96 rfl
  have e97 := h 97 rfl
  have e98 := h 98 rfl
  have e99 := h 99 rfl
  have e100 := h 100 rfl
  have e101 := h 101 rfl
  have e102 := h 102 rfl
  have e103 := h 103 rfl
  have e104 := h 104 rfl
  refine ⟨by rw [e1]; exact a1, by rw [h0]; exact a2, a3, by rw [e1, h1]; exact a4, by rw [h1]; exact a5, by rw [h13]; exact a6, ?_, ?_, ?_, ?_, ?_⟩
  · rw [e3, e104]; exact a7
  · intro i hi
    rw [e i hi, e96, e97, e98, e99, e100, e101, e102]
    exact a8 i hi
  · rw [e96, e97, e98, e99, e101]; exact a9
  · intro i hi
    rw [e i (by omega), e103, e98]
    exact a10 i hi
  · intro i hn hi
    rw [e i hi]
    exact a11 i hn hi
theorem gs_mc {b : Nat} (h : gJ_mc b = true) : gs_b b = false ∧ b ≠ 83 ∧ b ≠ 95 := by
  have hb : b < 105 := by simp [gJ_mc] at h; omega
  have key : ∀ b, b < 105 → gJ_mc b = true → gs_b b = false ∧ b ≠ 83 ∧ b ≠ 95 := by decide
  exact key b hb h
theorem gJ_m_R {w W : Nat → Nat → Int32} {n : Nat} (J : gJ_m w n) (h : gs_R w W) : gJ_m W n :=
  gJ_m_eq J (fun b hb => by have := gs_mc hb; exact h.1 b this.1 this.2.1 this.2.2) (h.2.1 0 rfl) (h.2.1 1 rfl) (h.2.1 13 rfl)
section
variable {n : Nat}
theorem gJ_ok (J : gJ_m w n) : gf_ok w n := ⟨J.2.1, J.2.2.1, fun i hi => by
  obtain ⟨a, ha, e⟩ := (J.2.2.2.2.2.2.2.2.1 i (by have := J.2.2.1; omega)).1
  rw [e]; exact vp_in_nI ha (by decide)⟩
theorem gJ_k (J : gJ_m w n) {i : Nat} (hi : i < 16) : vp_in (w (5 + i) 0) 7 := by
  obtain ⟨a, ha, e⟩ := (J.2.2.2.2.2.2.2.2.1 i hi).1
  rw [(J.2.2.2.2.2.2.2.1 i hi).1, e]; exact vp_in_nI ha (by decide)
theorem gJ_k2 (J : gJ_m w n) {i : Nat} (hi : i < 16) : vp_in (w 96 i) 7 := by
  obtain ⟨a, ha, e⟩ := (J.2.2.2.2.2.2.2.2.1 i hi).1
  rw [e]; exact vp_in_nI ha (by decide)
theorem gJ_cok (J : gJ_m w n) : gc_ok w n := ⟨J.1, J.2.2.1, fun i hi => gJ_k J (by have := J.2.2.1; omega)⟩
theorem gJ_th (J : gJ_m w n) : gc_th w n := fun i hi => by
  have h16 := J.2.2.1
  obtain ⟨a, ha, e⟩ := (J.2.2.2.2.2.2.2.2.1 i (by omega)).2.1
  exact ⟨a, ha, by rw [(J.2.2.2.2.2.2.2.1 i (by omega)).2.1, e]⟩
theorem gJ_dep (J : gJ_m w n) {i : Nat} (hi : i < 16) : gf_depth w (nI i) = w (5 + i) 3 := by
  obtain ⟨a, ha, e⟩ := (J.2.2.2.2.2.2.2.2.1 i hi).2.2.2.1
  have e3 := (J.2.2.2.2.2.2.2.1 i hi).2.2.2.1
  have ne : ¬ nI i = w 95 13 := by
    rw [J.2.2.2.2.2.1]
    intro z
    exact absurd (show nI i < 0 by rw [z]; decide) (nI_pos (by omega))
  unfold gf_depth
  rw [if_neg ne, nI_clamp (by omega), e3, e]
  exact if_neg (nI_nlt (a := 999) ha (by decide))
theorem gJ_hd (J : gJ_m w n) {i : Nat} (hi : i < 16) : w 3 (w (5 + i) 0).toNatClampNeg = w 104 (w 96 i).toNatClampNeg := by
  obtain ⟨a, ha, e⟩ := (J.2.2.2.2.2.2.2.2.1 i hi).1
  rw [(J.2.2.2.2.2.2.2.1 i hi).1, e, nI_clamp (by omega)]
  exact (J.2.2.2.2.2.2.1 a ha).1
theorem gJ_left (J : gJ_m w n) {i : Nat} (hi : i < 16) (y : Int32) : gc_left w i y = gf_left w (nI i) y := by
  unfold gc_left gf_left
  rw [gJ_dep J hi, gJ_hd J hi, nI_clamp (by omega)]
end
/-- a mind as the class keeps it -/
def gcm_R (w : Nat → Nat → Int32) (m : Nat) (D : gy_D) : Prop := w (gp_ma m) 4 = D.2.1 ∧ w (gp_ma m) 5 = D.2.2.1 ∧ w (gp_ma m) 6 = D.2.2.2.1 ∧ w (gp_ma m) 8 = nI D.2.2.2.2.2.1.length ∧ D.2.2.2.2.2.1.length ≤ 16 ∧ gc_prs w m 0 D.2.2.2.2.2.1 ∧ gc_try w m D.2.2.2.2.2.2
theorem gc_prs_eq {w W : Nat → Nat → Int32} {m : Nat} (h1 : W (gp_ma m + 1) = w (gp_ma m + 1)) (h2 : W (gp_ma m + 2) = w (gp_ma m + 2)) (h3 : W (gp_ma m + 3) = w (gp_ma m + 3)) (h4 : W (gp_ma m + 4) = w (gp_ma m + 4)) : ∀ (PL : List (gf_L × gf_L)) (i : Nat), gc_prs w m i PL → gc_prs W m i PL
  | [], _, _ => trivial
  | (E, B) :: t, i, h => by
    obtain ⟨⟨a, g1, g2, g3, g4, g5, g6⟩, wE, wB, hp⟩ := h
    exact ⟨⟨a, by rw [h2]; exact g1, by rw [h3]; exact g2, by rw [h4]; exact g3, g4, by rw [h1]; exact g5, by rw [h1]; exact g6⟩, wE, wB, gc_prs_eq h1 h2 h3 h4 t (i + 1) hp⟩
theorem gcm_eq {w W : Nat → Nat → Int32} {m : Nat} {D : gy_D} (h : ∀ j, j ≤ 4 → W (gp_ma m + j) = w (gp_ma m + j)) (H : gcm_R w m D) : gcm_R W m D := by
  have h0 : W (gp_ma m) = w (gp_ma m) := h 0 (by decide)
  have h1 := h 1 (by decide)
  obtain ⟨a1, a2, a3, a4, a5, a6, a7⟩ := H
  refine ⟨by rw [h0]; exact a1, by rw [h0]; exact a2, by rw [h0]; exact a3, by rw [h0]; exact a4, a5, gc_prs_eq h1 (h 2 (by decide)) (h 3 (by decide)) (h 4 (by decide)) _ _ a6, ?_⟩
  revert a7
  cases D.2.2.2.2.2.2 with
  | none => intro a7; show W (gp_ma m) 13 = 0; rw [h0]; exact a7
  | some L =>
    intro a7
    obtain ⟨g0, a, g1, g2, g3, g4, g5⟩ := a7
    exact ⟨by rw [h0]; exact g0, a, by rw [h0]; exact g1, by rw [h0]; exact g2, g3, by rw [h1]; exact g4, g5⟩
/-- all minds -/
def gJ_q (w : Nat → Nat → Int32) (q : Nat → Nat) (D : Nat → gy_D) : Prop := gc_q q ∧ ∀ k, k < 6 → gm_R w k (D k) ∧ gcm_R w (q k) (D k) ∧ ((D k).2.2.2.1 = 0 ∨ (D k).2.2.2.1 = 1)
theorem gm_R_R {w W : Nat → Nat → Int32} {k : Nat} {D : gy_D} (h : gs_R w W) (H : gm_R w k D) : gm_R W k D := by
  obtain ⟨a1, a2, a3, a4, a5⟩ := H
  exact ⟨by rw [h.1 107 rfl (by decide) (by decide)]; exact a1, by rw [h.1 108 rfl (by decide) (by decide)]; exact a2, by rw [h.1 109 rfl (by decide) (by decide)]; exact a3, gf_mind_R h a4, gf_try_R h a5⟩
theorem gJ_q_R {w W : Nat → Nat → Int32} {q : Nat → Nat} {D : Nat → gy_D} (J : gJ_q w q D) (h : gs_R w W) : gJ_q W q D :=
  ⟨J.1, fun k hk => ⟨gm_R_R h (J.2 k hk).1, gcm_eq (fun j hj => gs_ma h (J.1.1 k (by omega)) hj) (J.2 k hk).2.1, (J.2 k hk).2.2⟩⟩

end
