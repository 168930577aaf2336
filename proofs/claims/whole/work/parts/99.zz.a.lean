section
variable {l : Launch} {G : gp_G} {d : Nat} {w : Nat → Nat → Int32} {u : Int64 × (Nat → Int64)} {q : Nat → Nat} {K : Option Value → gp_H → Prop}
/-! ===== one call of both: ours ===== -/
set_option maxRecDepth 100000 in
theorem st_ours {x : Int32} (I : gI w u q) : gSt l G d m_Gp_ours m_Rf_ours [.int x] w u q := by
  obtain ⟨n, k, ms, tp, nt, D, N, Ng, nb, T, tl, tm, Jm, Jg, Jx, Jq, Jb, Js, Jt⟩ := id I
  have ex : ∀ kn : Nat, ∃ e, gz_bs none (gz_all w kn ms (D kn).2.2.2.2.2.1 k) = some e := fun kn => gz_bs_some (gz_c_ne (fun i tk => gz_ok_iff.mpr (Or.inl rfl)) k 0 _ 0)
  obtain ⟨ef, hef⟩ := Classical.axiomOfChoice ex
  refine sp_Gp_ours (d := d + 46) (ef := ef) Jm Jq Jg.2.2.2.1 Jg.1 (fun i hi => (Jg.2.2.2.2.1 i hi).2) Jt (fun _ kn _ => hef kn) (fun c1 c2 W hW => ⟨_, rfl, ?_⟩) (fun h0 => ⟨_, rfl, ?_⟩)
  · have e6 := gs_gE hW
    have JmW := gE_m e6 (by decide) Jm
    have e139 : W 139 = w 139 := e6.1 139 (by decide) (by decide) (by decide)
    refine sp_Rf_ours (d := d + 44) (PLf := fun kn => (D kn).2.2.2.2.2.1) (ef := ef) (fun kn hk => gf_mind_R hW (Jq.2 kn hk).1.2.2.2.1) (gJ_ms JmW (gE_g e6 (by decide) Jg)) Jg.2.2.1 (fun i j hi hj h => Jg.2.2.2.2.2 i j hi hj h) (gJ_tr JmW (gE_tr e6 (by decide) Jt)) (fun _ kn _ => by rw [gz_all_congr (gf_same_R hW)]; exact hef kn) (fun _ _ W' hW' => gI_end ?_ (gI_R hW' (gI_R hW I))) (fun z => absurd ⟨c1, c2⟩ z)
    have eo : gz_ot W = gz_ot w := by
      funext a b c d e f
      unfold gz_ot
      rw [e139]
    unfold gz_ours
    rw [eo]
  · exact sp_Rf_ours (d := d + 44) (PLf := fun kn => (D kn).2.2.2.2.2.1) (ef := ef) (fun kn hk => (Jq.2 kn hk).1.2.2.2.1) (gJ_ms Jm Jg) Jg.2.2.1 (fun i j hi hj h => Jg.2.2.2.2.2 i j hi hj h) (gJ_tr Jm Jt) (fun _ kn _ => hef kn) (fun c1 c2 _ _ => absurd ⟨c1, c2⟩ h0) (fun _ => gI_end rfl I)

end
