section
variable {l : Launch} {G : gp_G} {d : Nat} {w : Nat → Nat → Int32} {u : Int64 × (Nat → Int64)} {q : Nat → Nat} {K : Option Value → gp_H → Prop}
/-! ===== one call of both: of ===== -/
theorem gO_S {nd : Int32} {T T' : Nat → Int32} : ∀ (k a : Nat) (s : Int32), 0 ≤ s → (∀ i, a ≤ i → i < a + k → T i = T' i) → gp_it (gc_chS nd T) a k s = gp_it (gf_chS nd T') a k s
  | 0, _, _, _, _ => rfl
  | k + 1, a, s, hs, h => by
    have e : gc_chS nd T a s = gf_chS nd T' a s := by
      unfold gc_chS gf_chS
      by_cases c : (nd >>> (nI a &&& 31)) &&& 1 = 1
      · rw [if_pos c, if_pos c, h a (Nat.le_refl a) (by omega)]
      · rw [if_neg c, if_neg c, if_neg (Int32.not_lt.mpr hs)]
    have p : 0 ≤ gc_chS nd T a s := by
      unfold gc_chS
      by_cases c : (nd >>> (nI a &&& 31)) &&& 1 = 1
      · rw [if_pos c]
        by_cases y : s < T a
        · rw [if_pos y]
          exact Int32.le_of_lt (Int32.lt_of_le_of_lt hs y)
        · rw [if_neg y]
          exact hs
      · rw [if_neg c]
        exact hs
    show gp_it (gc_chS nd T) (a + 1) k (gc_chS nd T a s) = gp_it (gf_chS nd T') (a + 1) k (gf_chS nd T' a s)
    rw [← e]
    exact gO_S k (a + 1) _ p (fun i h1 h2 => h i (by omega) (by omega))
theorem gO_F : ∀ (k j : Nat) (w W : Nat → Nat → Int32), (∀ i, i < j → w 4 i = W 106 i) → (∀ i, i < 16 → w (5 + i) 5 = W 101 i) → j + k ≤ 16 → ∀ i, i < j + k → gp_it gc_chF j k w 4 i = gp_it gf_chF j k W 106 i
  | 0, j, w, W, h, _, _, i, hi => h i hi
  | k + 1, j, w, W, h, h2, hk, i, hi => by
    have e : gc_chV (w (5 + j) 5) (w 4) j = gf_chV (W 101 j) (W 106) j := by
      unfold gc_chV gf_chV
      rw [h2 j (by omega), gO_S j 0 0 (by decide) (fun i _ hi => h i (by omega))]
    show gp_it gc_chF (j + 1) k (gc_chF j w) 4 i = gp_it gf_chF (j + 1) k (gf_chF j W) 106 i
    refine gO_F k (j + 1) _ _ (fun i hi => ?_) (fun i hi => ?_) (by omega) i (by omega)
    · unfold gc_chF gf_chF
      rw [gw_at, gw_at, e]
      by_cases z : i = j
      · rw [if_pos z, if_pos z]
      · rw [if_neg z, if_neg z]
        exact h i (by omega)
    · unfold gc_chF gf_chF
      rw [gw_ne (by omega), gw_ne (by decide)]
      exact h2 i hi
theorem gO_sR {W X : Nat → Nat → Int32} (h : ∀ a, a ≠ 4 → a ≠ 106 → X a = W a) : gs_R W X :=
  ⟨fun b h1 _ _ => h b (fun z => by rw [z] at h1; exact absurd h1 (by decide)) (fun z => by rw [z] at h1; exact absurd h1 (by decide)), fun k _ => by rw [h 95 (by decide) (by decide)], by rw [h 83 (by decide) (by decide)]⟩
set_option maxRecDepth 100000 in
theorem st_of {m what : Int32} (I : gI w u q) : gSt l G d m_Gp_of m_Rf_of [.int m, .int what] w u q := by
  obtain ⟨n, k, ms, tp, nt, D, N, Ng, nb, T, tl, tm, Jm, Jg, Jx, Jq, Jb, Js, Jt⟩ := id I
  have h16 := Jm.2.2.1
  have r : ∀ i, gs_R w (gp_it gf_chF 0 (i + 1) w) := fun i => gO_sR (fun a _ h => gf_chF_ne (i + 1) 0 w a h)
  have wh : ∀ i, i < n → m = nI i → ∀ W : Nat → Nat → Int32, W 95 = w 95 → 0 ≤ m ∧ m ≤ W 95 0 - 1 := fun i hi e W hW => by
    rw [hW]
    exact (gJ_lt Jm).mp ⟨by rw [e]; exact nI_pos' (by omega), by rw [e, Jm.1]; exact nI_lt hi (by omega)⟩
  have ii : ∀ {i i' : Nat}, i < n → m = nI i → i' < n → m = nI i' → i' = i := fun h1 h2 h3 h4 => (nI_eq (by omega) (by omega)).mp (h4.symm.trans h2)
  have no : ∀ {a b : Int32}, what = a → a ≠ b → what = b → False := fun h1 h2 h3 => h2 (h1.symm.trans h3)
  refine sp_Gp_of (d := d + 58) (gJ_cok Jm) (fun h0 => ⟨_, rfl, ?_⟩) (fun i hi em ew => ⟨_, rfl, ?_⟩) (fun i hi em ew => ⟨_, rfl, ?_⟩) (fun i hi em ew => ⟨_, rfl, ?_⟩)
  · have bad : ∀ {P : Prop} {i : Nat} {a : Int32}, i < n → m = nI i → what = a → 0 ≤ a ∧ a ≤ 2 → P := fun {P i a} h1 h2 h3 h4 => by
      refine absurd ⟨?_, ?_⟩ h0
      · exact (gJ_lt Jm).mpr (wh i h1 h2 w rfl)
      · rw [h3]
        exact h4
    exact sp_Rf_of (d := d + 57) (gJ_ok Jm) (fun _ => gI_end rfl I) (fun i h1 h2 h3 => bad h1 h2 h3 (by decide)) (fun i h1 h2 h3 => bad h1 h2 h3 (by decide)) (fun i h1 h2 h3 => bad h1 h2 h3 (by decide))
  · refine sp_Rf_of (d := d + 57) (gJ_ok Jm) (fun z => absurd ⟨wh i hi em w rfl, by rw [ew]; decide⟩ z) (fun i' h1 h2 _ => gI_end ?_ (gI_R (r i') I)) (fun _ _ _ z => (no ew (by decide) z).elim) (fun _ _ _ z => (no ew (by decide) z).elim)
    rw [em, gJ_left Jm (by omega), Jm.2.2.2.1]
  · refine sp_Rf_of (d := d + 57) (gJ_ok Jm) (fun z => absurd ⟨wh i hi em w rfl, by rw [ew]; decide⟩ z) (fun _ _ _ z => (no ew (by decide) z).elim) (fun i' h1 h2 _ => gI_end ?_ (gI_R (r i') I)) (fun _ _ _ z => (no ew (by decide) z).elim)
    unfold gc_wear
    rw [em, gJ_left Jm (by omega), Jm.2.2.2.1, gJ_dep Jm (by omega)]
  · have rc : gs_R w (gp_it gc_chF 0 (i + 1) w) := gO_sR (fun a h _ => gc_chF_ne (i + 1) 0 w a h)
    have wc : ∀ a, a ≠ 4 → gp_it gc_chF 0 (i + 1) w a = w a := fun a h => gc_chF_ne (i + 1) 0 w a h
    have Jc := gJ_m_R Jm rc
    have Ic := gI_R rc I
    have eF := gO_F (i + 1) 0 w (gp_it gc_chF 0 (i + 1) w) (fun i hi => absurd hi (by omega)) (fun j hj => by rw [wc 101 (by decide)]; exact (Jm.2.2.2.2.2.2.2.1 j hj).2.2.2.2.2.1) (by omega) i (by omega)
    obtain ⟨W, eW⟩ : ∃ W, W = gp_it gc_chF 0 (i + 1) w := ⟨_, rfl⟩
    rw [eF]
    rw [← eW] at wc Jc Ic ⊢
    refine sp_Rf_of (d := d + 57) (gJ_ok Jc) (fun z => absurd ⟨wh i hi em W (wc 95 (by decide)), by rw [ew]; decide⟩ z) (fun _ _ _ z => (no ew (by decide) z).elim) (fun _ _ _ z => (no ew (by decide) z).elim) (fun i' h1 h2 _ => gI_end ?_ (gI_R (gO_sR (fun a _ h => gf_chF_ne (i' + 1) 0 W a h)) Ic))
    rw [ii hi em h1 h2]

end
