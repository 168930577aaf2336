section
variable {l : Launch} {G : gp_G} {d : Nat} {w : Nat → Nat → Int32} {u : Int64 × (Nat → Int64)} {q : Nat → Nat} {K : Option Value → gp_H → Prop}
/-! ===== one call of both: those that only answer, and small ones ===== -/
theorem gJ_ms {n k : Nat} {ms : Nat → Nat} (J : gJ_m w n) (Jg : gJ_g w u n k ms) : gf_ms w k ms := ⟨Jg.2.1, fun i hi => by
  have h := (Jg.2.2.2.2.1 i hi)
  have h16 := J.2.2.1
  exact ⟨h.1, by omega, gJ_k2 J (by omega)⟩⟩
theorem gJ_lt {n : Nat} (J : gJ_m w n) {m : Int32} : (0 ≤ m ∧ m < w 1 3) ↔ (0 ≤ m ∧ m ≤ w 95 0 - 1) := by
  rw [J.1, J.2.1]
  have h16 := J.2.2.1
  constructor
  · rintro ⟨h1, h2⟩
    obtain ⟨i, hi, e⟩ := nI_of (Int32.not_lt.mpr h1)
    subst e
    have := (nI_ltI hi (by omega)).mp h2
    refine ⟨h1, ?_⟩
    rw [show nI n - 1 = nI (n - 1) from pk_sub (b := 1) (by omega)]
    exact nI_le (by omega) (by omega)
  · rintro ⟨h1, h2⟩
    obtain ⟨i, hi, e⟩ := nI_of (Int32.not_lt.mpr h1)
    subst e
    refine ⟨h1, ?_⟩
    by_cases z : n = 0
    · subst z
      exact absurd (Int32.le_trans h1 h2) (by decide)
    · rw [show nI n - 1 = nI (n - 1) from pk_sub (b := 1) (by omega)] at h2
      have := (nI_leI hi (by omega)).mp h2
      exact nI_lt (by omega) (by omega)
set_option maxRecDepth 100000 in
theorem st_fault {x : Int32} (I : gI w u q) : gSt l G d m_Gp_fault m_Rf_fault [.int x] w u q := by
  obtain ⟨n, k, ms, tp, nt, D, N, Ng, nb, T, tl, tm, Jm, Jg, Jx, Jq, Jb, Js, Jt⟩ := id I
  refine sp_Gp_fault (d := d + 60) ⟨_, rfl, ?_⟩
  refine sp_Rf_fault (d := d + 60) (gI_end ?_ I)
  rw [Jx.2.2.1, Jx.2.2.2]
set_option maxRecDepth 100000 in
theorem st_look {x : Int32} (I : gI w u q) : gSt l G d m_Gp_look m_Rf_look [.int x] w u q := by
  obtain ⟨n, k, ms, tp, nt, D, N, Ng, nb, T, tl, tm, Jm, Jg, Jx, Jq, Jb, Js, Jt⟩ := id I
  refine sp_Gp_look (d := d + 60) ⟨_, rfl, ?_⟩
  refine sp_Rf_look (d := d + 60) (gI_end ?_ I)
  rw [Jm.1, Jm.2.1, Jg.1, Jg.2.1, Jb.1, Jb.2.1, Js.1, Js.2.1, Jt.1, Jt.2.1, Jm.2.2.2.1]
set_option maxRecDepth 100000 in
theorem st_told {x y : Int32} (I : gI w u q) : gSt l G d m_Gp_told m_Rf_told [.int x, .int y] w u q := by
  obtain ⟨n, k, ms, tp, nt, D, N, Ng, nb, T, tl, tm, Jm, Jg, Jx, Jq, Jb, Js, Jt⟩ := id I
  refine sp_Gp_told (d := d + 57) (gJ_cok Jm) Jq.1 (fun kn hk ek hs => ⟨_, rfl, ?_⟩) (fun h0 => ⟨_, rfl, ?_⟩)
  · refine sp_Rf_told (d := d + 56) (gJ_ok Jm) (fun _ _ => gI_end ?_ I) (fun z => absurd ⟨by rw [ek]; exact ⟨nI_pos' (by omega), nI_le (b := 5) (by omega) (by decide)⟩, hs⟩ z)
    have q4 := gJ_q4 Jq hk
    rw [ek, gJ_told1 Jm q4.1 q4.2 (by omega), Jm.2.2.2.1]
  · exact sp_Rf_told (d := d + 56) (gJ_ok Jm) (fun a b => absurd ⟨a, b⟩ h0) (fun _ => gI_end rfl I)
set_option maxRecDepth 100000 in
theorem st_never {x : Int32} (I : gI w u q) : gSt l G d m_Gp_never m_Rf_never [.int x] w u q := by
  obtain ⟨n, k, ms, tp, nt, D, N, Ng, nb, T, tl, tm, Jm, Jg, Jx, Jq, Jb, Js, Jt⟩ := id I
  refine sp_Gp_never (d := d + 57) (gJ_cok Jm) Jq.1 (fun kn hk ek => ⟨_, rfl, ?_⟩) (fun h0 => ⟨_, rfl, ?_⟩)
  · refine sp_Rf_never (d := d + 56) (gJ_ok Jm) (fun _ => gI_end ?_ I) (fun z => absurd (by rw [ek]; exact ⟨nI_pos' (by omega), nI_le (b := 5) (by omega) (by decide)⟩) z)
    have q4 := gJ_q4 Jq hk
    rw [ek, gJ_told1 Jm q4.1 q4.2 (by omega), Jm.2.2.2.1, gJ_allth Jm, Jm.1, Jm.2.1]
  · exact sp_Rf_never (d := d + 56) (gJ_ok Jm) (fun a => absurd a h0) (fun _ => gI_end rfl I)
set_option maxRecDepth 100000 in
theorem st_alone {x y : Int32} (I : gI w u q) : gSt l G d m_Gp_alone m_Rf_alone [.int x, .int y] w u q := by
  obtain ⟨n, k, ms, tp, nt, D, N, Ng, nb, T, tl, tm, Jm, Jg, Jx, Jq, Jb, Js, Jt⟩ := id I
  have h16 := Jm.2.2.1
  refine sp_Gp_alone (d := d + 57) (gJ_cok Jm) Jq.1 (fun kn i hk ek hi ei => ⟨_, rfl, ?_⟩) (fun h0 => ⟨_, rfl, ?_⟩)
  · have q4 := gJ_q4 Jq hk
    have A := gJ_alone Jm q4.1 q4.2 (by omega) hi
    have b01 : ∀ z : Int32, (z >>> (nI i &&& 31)) &&& 1 = 0 ∨ (z >>> (nI i &&& 31)) &&& 1 = 1 := fun z => by
      rw [gb_t z (by omega)]
      cases gb z i
      · exact Or.inl rfl
      · exact Or.inr rfl
    have yl : 0 ≤ y ∧ y ≤ w 95 0 - 1 := (gJ_lt Jm).mp ⟨by rw [ei]; exact nI_pos' (by omega), by rw [ei, Jm.1]; exact nI_lt hi (by omega)⟩
    refine sp_Rf_alone (d := d + 56) (gJ_ok Jm) (fun i' hi' ei' _ hh => gI_end ?_ I) (fun i' hi' ei' _ hh => gI_end ?_ I) (fun z => absurd ⟨by rw [ek]; exact ⟨nI_pos' (by omega), nI_le (b := 5) (by omega) (by decide)⟩, yl⟩ z)
    · have ii : i' = i := ((nI_eq (by omega) (by omega)).mp (ei'.symm.trans ei))
      subst ii
      rw [ek, ei] at hh
      exact (A.mpr hh).symm
    · have ii : i' = i := ((nI_eq (by omega) (by omega)).mp (ei'.symm.trans ei))
      subst ii
      rw [ek, ei] at hh
      exact ((b01 _).resolve_right (fun z => hh (A.mp z))).symm
  · exact sp_Rf_alone (d := d + 56) (gJ_ok Jm) (fun i' hi' ei' a _ => absurd ⟨a, (gJ_lt Jm).mpr ⟨by rw [ei']; exact nI_pos' (by omega), by rw [ei', Jm.2.1, show nI n - 1 = nI (n - 1) from pk_sub (b := 1) (by omega)]; exact nI_le (by omega) (by omega)⟩⟩ h0) (fun i' hi' ei' a _ => absurd ⟨a, (gJ_lt Jm).mpr ⟨by rw [ei']; exact nI_pos' (by omega), by rw [ei', Jm.2.1, show nI n - 1 = nI (n - 1) from pk_sub (b := 1) (by omega)]; exact nI_le (by omega) (by omega)⟩⟩ h0) (fun _ => gI_end rfl I)
set_option maxRecDepth 100000 in
theorem st_laid {x y z : Int32} (I : gI w u q) : gSt l G d m_Gp_laid m_Rf_laid [.int x, .int y, .int z] w u q := by
  obtain ⟨n, k, ms, tp, nt, D, N, Ng, nb, T, tl, tm, Jm, Jg, Jx, Jq, Jb, Js, Jt⟩ := id I
  have hN := Jb.2.2.1
  refine sp_Gp_laid (d := d + 58) Jb Jq (fun a b k0 k1 ew a1 a2 eN e5 w0 w1 => ⟨_, rfl, ?_⟩) (fun h0 => ⟨_, rfl, ?_⟩)
  · refine sp_Rf_laid (d := d + 58) Jb.2.1 hN (fun a' b' _ _ ew' a1' a2' eN' _ _ _ => gI_end ?_ I) (fun zz => absurd ⟨⟨k0, k1⟩, ⟨a, b, ew, a1, a2, eN⟩, e5, w0, w1⟩ zz)
    have aa : a' = a := (nI_eq (by omega) (by omega)).mp (ew'.symm.trans ew)
    subst aa
    have bb : b' = b := Nat.eq_of_mul_eq_mul_left (by omega) (eN'.symm.trans eN)
    subst bb
    rfl
  · exact sp_Rf_laid (d := d + 58) Jb.2.1 hN (fun a b k0 k1 ew a1 a2 eN e5 w0 w1 => absurd ⟨⟨k0, k1⟩, ⟨a, b, ew, a1, a2, eN⟩, e5, w0, w1⟩ h0) (fun _ => gI_end rfl I)

end
