section
variable {l : Launch} {G : gp_G} {d : Nat} {w : Nat → Nat → Int32} {u : Int64 × (Nat → Int64)} {q : Nat → Nat} {K : Option Value → gp_H → Prop}
/-! ===== one call of both: trial ===== -/
theorem gr_off {a b : Nat} {f : Nat → Int32} {w : Nat → Nat → Int32} (h : b ≠ a) : gr w a f b = w b := by
  unfold gr
  rw [if_neg h]
theorem gE_gr {s b : Nat} {p : Nat → Int32} {w W : Nat → Nat → Int32} (h : gE s w W) (hb : b ≠ 95) (hk : gK b = s) : gE s w (gr W b p) :=
  ⟨fun c a1 a2 a3 => by
    have : c ≠ b := fun z => a3 (by rw [z]; exact hk)
    rw [gr_off this]
    exact h.1 c a1 a2 a3, fun c a1 a2 => by rw [gr_off (Ne.symm hb)]; exact h.2 c a1 a2⟩
set_option maxRecDepth 100000 in
theorem st_trial {x : Int32} (I : gI w u q) : gSt l G d m_Gp_trial m_Rf_trial [.int x] w u q := by
  obtain ⟨n, k, ms, tp, nt, D, N, Ng, nb, T, tl, tm, Jm, Jg, Jx, Jq, Jb, Js, Jt⟩ := id I
  obtain ⟨g1, g2, g3, g4, g5, g6⟩ := id Jg
  obtain ⟨t1, t2, t3, t4⟩ := id Jt
  refine sp_Gp_trial (d := d + 58) Jm g4 g1 (fun i hi => (g5 i hi).2) t1 t3 (fun c1 c2 c3 c4 c5 c6 => ⟨_, rfl, ?_⟩) (fun c => ⟨_, rfl, ?_⟩)
  · obtain ⟨W1, eW1⟩ : ∃ W1, W1 = gw (gw (gw w 93 T (nI k)) 94 T x) 91 3 (nI (T + 1)) := ⟨_, rfl⟩
    have e1 : gE 7 w W1 := by rw [eW1]; exact gE_w (gE_w (gE_w (gE_r 7 w) (by decide) (by decide)) (by decide) (by decide)) (by decide) (by decide)
    have f65 : W1 95 65 = nI T := by rw [eW1]; exact t2
    have f103 : W1 103 = w 103 := e1.1 103 (by decide) (by decide) (by decide)
    have f105 : W1 105 = w 105 := e1.1 105 (by decide) (by decide) (by decide)
    have f138 : W1 138 = w 138 := by rw [eW1]; rfl
    have fC : gf_trC W1 ms x k ↔ gf_trC w ms x k := by unfold gf_trC; rw [f103]
    rw [← eW1]
    refine sp_Rf_trial (d := d + 59) (T := T) (gJ_ms (gE_m e1 (by decide) Jm) (gE_g e1 (by decide) Jg)) g3 f65 t3 (fun _ _ _ _ _ _ p p1 p2 => gI_end rfl ?_) (fun z => absurd ⟨c1, c2, ⟨c3, c4⟩, c5, fC.mpr c6⟩ z)
    have f2 : W1 95 2 = nI k := (e1.2 2 (by decide) (by decide)).trans g2
    obtain ⟨W2, eW2⟩ : ∃ W2, W2 = gw (gf_trW W1 T x p) 95 65 (nI (T + 1)) := ⟨_, rfl⟩
    have e2 : gE 7 w W2 := by
      rw [eW2]
      unfold gf_trW
      exact gE_95 (gE_gr (gE_w (gE_w e1 (by decide) (by decide)) (by decide) (by decide)) (by decide) (by decide)) (by decide)
    have a91 : W2 91 3 = nI (T + 1) := by rw [eW2, eW1]; rfl
    have a65 : W2 95 65 = nI (T + 1) := by rw [eW2]; rfl
    have a93 : ∀ j, W2 93 j = if j = T then nI k else w 93 j := fun j => by rw [eW2, eW1]; rfl
    have a94 : ∀ j, W2 94 j = if j = T then x else w 94 j := fun j => by rw [eW2, eW1]; rfl
    have a137 : ∀ j, W2 137 j = if j = T then nI k else w 137 j := fun j => by
      rw [← f2, eW2]
      show (if j = T then W1 95 2 else W1 137 j) = _
      rw [eW1]
      rfl
    have a139 : ∀ j, W2 139 j = if j = T then x else w 139 j := fun j => by rw [eW2, eW1]; rfl
    have a138 : ∀ j, W2 138 j = p j := fun j => by rw [eW2]; rfl
    rw [← eW2]
    refine ⟨n, k, ms, tp, nt, D, N, Ng, nb, T + 1, fun t => if t = T then k else tl t, fun t => if t = T then ms else tm t, gE_m e2 (by decide) Jm, gE_g e2 (by decide) Jg, gE_x e2 (by decide) Jx, gE_q e2 (by decide) Jq, gE_bi e2 (by decide) Jb, gE_s e2 (by decide) Js, ⟨a91, a65, by omega, fun t ht => ?_⟩⟩
    show W2 93 t = nI (if t = T then k else tl t) ∧ W2 137 t = nI (if t = T then k else tl t) ∧ 1 ≤ (if t = T then k else tl t) ∧ (if t = T then k else tl t) ≤ 10 ∧ W2 94 t = W2 139 t ∧ gm_P (vp_updL u.2 T u.1 t) (if t = T then k else tl t) (if t = T then ms else tm t) ∧ ∀ i, i < (if t = T then k else tl t) → (if t = T then ms else tm t) i < n ∧ W2 138 (10 * t + i) = nI ((if t = T then ms else tm t) i)
    rw [a93, a137, a94, a139]
    by_cases z : t = T
    · have eu : vp_updL u.2 T u.1 t = u.1 := by unfold vp_updL; rw [if_pos z]
      rw [eu]
      simp only [if_pos z]
      refine ⟨trivial, trivial, c1, c2, trivial, g4, fun i hi => ⟨(g5 i hi).2, ?_⟩⟩
      rw [a138, z, p1 i hi, f105]
      exact (g5 i hi).1
    · have eu : vp_updL u.2 T u.1 t = u.2 t := by unfold vp_updL; rw [if_neg z]
      rw [eu]
      simp only [if_neg z]
      obtain ⟨b1, b2, b3, b4, b5, b6, b7⟩ := t4 t (by omega)
      refine ⟨b1, b2, b3, b4, b5, b6, fun i hi => ⟨(b7 i hi).1, ?_⟩⟩
      rw [a138, p2 _ (by omega), f138]
      exact (b7 i hi).2
  · exact sp_Rf_trial (d := d + 59) (T := T) (gJ_ms Jm Jg) g3 t2 t3 (fun c1 c2 c3 c4 c5 c6 _ _ _ => absurd ⟨c1, c2, ⟨c3, c4⟩, c5, c6⟩ c) (fun _ => gI_end rfl I)

end
