section
variable {l : Launch} {G : gp_G} {d : Nat} {w : Nat → Nat → Int32} {u : Int64 × (Nat → Int64)} {q : Nat → Nat} {K : Option Value → gp_H → Prop}
/-! ===== one call of both: deeper ===== -/
set_option maxRecDepth 100000 in
theorem st_deeper {x y : Int32} (I : gI w u q) : gSt l G d m_Gp_deeper m_Rf_deeper [.int x, .int y] w u q := by
  obtain ⟨n, k, ms, tp, nt, D, N, Ng, nb, T, tl, tm, Jm, Jg, Jx, Jq, Jb, Js, Jt⟩ := id I
  refine sp_Gp_deeper (d := d + 56) (gJ_cok Jm) (gJ_th Jm) Jq.1 (fun kn hk ek hy => ⟨_, rfl, ?_⟩) (fun h0 => ⟨_, rfl, ?_⟩)
  · refine sp_Rf_deeper (d := d + 56) (gJ_ok Jm) Jm.2.2.2.2.2.1 (fun _ => gI_end ?_ I) (fun z => absurd ⟨by rw [ek]; exact ⟨nI_pos' (by omega), nI_le (b := 5) (by omega) (by decide)⟩, hy⟩ z)
    have q4 := gJ_q4 Jq hk
    have eS : ∀ all : Int32, gc_dpS w (q kn) y all n = gf_dpS w (nI kn) y all n := fun all => by
      funext i s
      unfold gc_dpS gf_dpS
      rw [gJ_told Jm q4.1 q4.2 (by omega)]
    rw [ek, eS, gJ_told1 Jm q4.1 q4.2 (by omega), Jm.1, Jm.2.1]
  · exact sp_Rf_deeper (d := d + 56) (gJ_ok Jm) Jm.2.2.2.2.2.1 (fun c => absurd c h0) (fun _ => gI_end rfl I)

end
