section
variable {l : Launch} {G : gp_G} {d : Nat} {w : Nat → Nat → Int32} {u : Int64 × (Nat → Int64)} {q : Nat → Nat} {K : Option Value → gp_H → Prop}
/-! ===== one call of both: best, widths, beat ===== -/
theorem gf_told_same {w W : Nat → Nat → Int32} (h : gf_same w W) : gf_told W = gf_told w := by
  have e : gf_tS W = gf_tS w := by
    funext k set y i s
    unfold gf_tS gf_tC
    rw [h.1 97 (by decide) (by decide), h.1 100 (by decide) (by decide), h.1 101 (by decide) (by decide), h.1 102 (by decide) (by decide), h.2.1, h.2.2.1, (gf_left_congr h (nI i) y).2]
  funext k set y n
  unfold gf_told
  rw [e]
theorem gf_best_same {w W : Nat → Nat → Int32} (h : gf_same w W) : gf_best W = gf_best w := by
  have e1 : gf_woS W = gf_woS w := by
    funext set minds worst y n k v
    unfold gf_woS
    rw [gf_told_same h]
  have e2 : gf_worth W = gf_worth w := by
    funext set minds worst y n
    unfold gf_worth
    rw [e1]
  have e3 : gf_beS W = gf_beS w := by
    funext budget minds worst y n s b
    unfold gf_beS
    rw [e2, h.1 98 (by decide) (by decide)]
  funext budget minds worst y n
  unfold gf_best
  rw [e2, e3]
set_option maxRecDepth 100000 in
theorem st_best {x y z : Int32} (I : gI w u q) : gSt l G d m_Gp_best m_Rf_best [.int x, .int y, .int z] w u q := by
  obtain ⟨n, k, ms, tp, nt, D, N, Ng, nb, T, tl, tm, Jm, Jg, Jx, Jq, Jb, Js, Jt⟩ := id I
  refine sp_Gp_best (d := d + 43) Jm Jq (fun worst hw c W hW => ⟨_, rfl, ?_⟩) (fun h0 => ⟨_, rfl, ?_⟩)
  · refine sp_Rf_best (d := d + 55) (gJ_ok (gE_m (gs_gE hW) (by decide) Jm)) (fun worst' hw' _ => gI_end ?_ (gI_R hW I)) (fun z => absurd c z)
    have e : worst' = worst := by
      rcases hw with ⟨a, b⟩ | ⟨a, b⟩ <;> rcases hw' with ⟨a', b'⟩ | ⟨a', b'⟩
      · rw [b, b']
      · exact absurd a a'
      · exact absurd a' a
      · rw [b, b']
    rw [e, gf_best_same (gf_same_R hW), (gf_same_R hW).2.2.2.1]
  · exact sp_Rf_best (d := d + 55) (gJ_ok Jm) (fun _ _ c => absurd c h0) (fun _ => gI_end rfl I)
set_option maxRecDepth 100000 in
theorem st_widths {x y : Int32} (I : gI w u q) : gSt l G d m_Gp_widths m_Rf_widths [.int x, .int y] w u q := by
  obtain ⟨n, k, ms, tp, nt, D, N, Ng, nb, T, tl, tm, Jm, Jg, Jx, Jq, Jb, Js, Jt⟩ := id I
  refine sp_Gp_widths (d := d + 54) Jb Jq (fun kn W s ek hk h0 es hW => ⟨_, rfl, ?_⟩) (fun h0 => ⟨_, rfl, ?_⟩)
  · have JbW := gE_bi (gs_gE hW) (by decide) Jb
    have e126 : W 126 = w 126 := hW.1 126 rfl (by decide) (by decide)
    have e109 : W 109 = w 109 := hW.1 109 rfl (by decide) (by decide)
    have e1 : gf_edS W = gf_edS w := by
      funext k wd i j n
      unfold gf_edS gf_laid
      rw [e126, e109]
    have e2 : gf_edR W = gf_edR w := by
      funext k wd a i n
      unfold gf_edR
      rw [e1]
    have e3 : gf_rkN W = gf_rkN w := by
      funext k N TL a
      unfold gf_rkN gf_edges
      rw [e2]
    refine sp_Rf_widths (d := d + 56) JbW.2.1 JbW.2.2.1 (TLf := fun kn => (D kn).2.2.2.2.2.2) (fun kn hk => gf_try_R hW (Jq.2 kn hk).1.2.2.2.2) (fun kn' W' s' ek' hk' _ es' hW' => gI_end ?_ (gI_R hW' (gI_R hW I))) (fun z => absurd ⟨by rw [ek]; exact ⟨nI_pos' (by omega), nI_le (b := 5) (by omega) (by decide)⟩, h0⟩ z)
    have kk : kn' = kn := (nI_eq (by omega) (by omega)).mp (ek'.symm.trans ek)
    subst kk
    have ess : s' = s := by rw [es', es, e3]
    rw [ess]
  · exact sp_Rf_widths (d := d + 56) Jb.2.1 Jb.2.2.1 (TLf := fun kn => (D kn).2.2.2.2.2.2) (fun kn hk => (Jq.2 kn hk).1.2.2.2.2) (fun kn W s ek hk hy _ _ => absurd ⟨by rw [ek]; exact ⟨nI_pos' (by omega), nI_le (b := 5) (by omega) (by decide)⟩, hy⟩ h0) (fun _ => gI_end rfl I)

end
