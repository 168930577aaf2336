section
variable {l : Launch} {G : gp_G} {d : Nat} {w : Nat → Nat → Int32} {u : Int64 × (Nat → Int64)} {q : Nat → Nat} {K : Option Value → gp_H → Prop}
/-! ===== one call of both: agrees ===== -/
theorem gI_140 {w : Nat → Nat → Int32} {n k : Nat} {ms tp : Nat → Nat} {nt : Nat} {D : Nat → gy_D} {N Ng nb T : Nat} {tl : Nat → Nat} {tm : Nat → Nat → Nat} {f g : Nat → Int32} (Jm : gJ_m w n) (Jg : gJ_g w u n k ms) (Jx : gJ_x w tp nt) (Jq : gJ_q w q D) (Jb : gJ_bi w N Ng) (Js : gJ_s w nb) (Jt : gJ_t w u n T tl tm) (hg : ∀ i, i < k → g i = w 105 i) : gI (gr (gr w 140 f) 105 g) u q := by
  have e : gE 2 w (gr (gr w 140 f) 105 g) := ⟨fun b h1 h2 h3 => by
    rw [gr_off (fun z => h3 (by rw [z]; decide)), gr_off (fun z => h2 (by rw [z]; decide))], fun c _ _ => by rw [gr_off (by decide), gr_off (by decide)]⟩
  obtain ⟨g1, g2, g3, g4, g5, g6⟩ := Jg
  refine ⟨n, k, ms, tp, nt, D, N, Ng, nb, T, tl, tm, gE_m e (by decide) Jm, ⟨g1, g2, g3, g4, fun i hi => ⟨?_, (g5 i hi).2⟩, g6⟩, gE_x e (by decide) Jx, gE_q e (by decide) Jq, gE_bi e (by decide) Jb, gE_s e (by decide) Js, gE_tr e (by decide) Jt⟩
  show g i = nI (ms i)
  rw [hg i hi]
  exact (g5 i hi).1
set_option maxRecDepth 100000 in
theorem st_agrees {x : Int32} (I : gI w u q) : gSt l G d m_Gp_agrees m_Rf_agrees [.int x] w u q := by
  obtain ⟨n, k, ms, tp, nt, D, N, Ng, nb, T, tl, tm, Jm, Jg, Jx, Jq, Jb, Js, Jt⟩ := id I
  have ex : ∀ t : Nat, ∃ e : Nat → gz_S, ∀ kn, gz_bs none (gz_all w kn (tm t) (D kn).2.2.2.2.2.1 (tl t)) = some (e kn) := fun t => Classical.axiomOfChoice (fun kn => gz_all_s w kn (tm t) (D kn).2.2.2.2.2.1 (tl t))
  obtain ⟨ef, hef⟩ := Classical.axiomOfChoice ex
  refine sp_Gp_agrees (d := d + 46) (ef := ef) Jm Jq Jt (fun t _ kn _ => hef t kn) (fun tN W et ht hW => ⟨_, rfl, ?_⟩) (fun h0 => ⟨_, rfl, ?_⟩)
  · have e6 := gs_gE hW
    have JmW := gE_m e6 (by decide) Jm
    have JgW := gE_g e6 (by decide) Jg
    have JtW := gE_tr e6 (by decide) Jt
    have e139 : W 139 = w 139 := e6.1 139 (by decide) (by decide) (by decide)
    have hT := Jt.2.2.1
    refine sp_Rf_agrees (d := d + 44) (PLf := fun kn => (D kn).2.2.2.2.2.1) (ef := ef) (fun kn hk => gf_mind_R hW (Jq.2 kn hk).1.2.2.2.1) (gJ_ms JmW JgW) Jg.2.2.1 (gJ_tr JmW JtW) (fun t _ kn _ => by rw [gz_all_congr (gf_same_R hW)]; exact hef t kn) (fun tN' et' ht' f g W' hg hW' => gI_end ?_ (gI_R hW' (gI_140 JmW JgW (gE_x e6 (by decide) Jx) (gE_q e6 (by decide) Jq) (gE_bi e6 (by decide) Jb) (gJ_s_R hW Js) JtW hg))) (fun z => absurd ⟨by rw [et]; exact nI_pos' (by omega), by rw [et, show nI T - 1 = nI (T - 1) from pk_sub (b := 1) (by omega)]; exact nI_le (by omega) (by omega)⟩ z)
    have tt : tN' = tN := (nI_eq (by omega) (by omega)).mp (et'.symm.trans et)
    subst tt
    rw [e139]
  · have hT := Jt.2.2.1
    exact sp_Rf_agrees (d := d + 44) (PLf := fun kn => (D kn).2.2.2.2.2.1) (ef := ef) (fun kn hk => (Jq.2 kn hk).1.2.2.2.1) (gJ_ms Jm Jg) Jg.2.2.1 (gJ_tr Jm Jt) (fun t _ kn _ => hef t kn) (fun tN et ht _ _ _ _ _ => absurd ⟨by rw [et]; exact nI_pos' (by omega), by rw [et, show nI T - 1 = nI (T - 1) from pk_sub (b := 1) (by omega)]; exact nI_le (by omega) (by omega)⟩ h0) (fun _ => gI_end rfl I)

end
