section
variable {l : Launch} {G : gp_G} {d : Nat} {w : Nat → Nat → Int32} {u : Int64 × (Nat → Int64)} {q : Nat → Nat} {K : Option Value → gp_H → Prop}
/-! ===== what holds between two calls ===== -/
/-- to which part of the world a cell belongs: marks 1, message 2, tape 3, minds 4, bits 5, beats 6, trials 7, none 0 -/
def gK (b : Nat) : Nat := if b = 1 ∨ b = 3 ∨ (5 ≤ b ∧ b ≤ 20) ∨ (96 ≤ b ∧ b ≤ 104) then 1 else if b = 0 ∨ b = 105 then 2 else if b = 55 ∨ b = 56 ∨ b = 118 then 3 else if (22 ≤ b ∧ b ≤ 51) ∨ (60 ≤ b ∧ b ≤ 64) ∨ (107 ≤ b ∧ b ≤ 117) ∨ b = 121 ∨ b = 122 then 4 else if (76 ≤ b ∧ b ≤ 79) ∨ b = 126 ∨ b = 127 then 5 else if (83 ≤ b ∧ b ≤ 90) ∨ (130 ≤ b ∧ b ≤ 136) then 6 else if b = 91 ∨ b = 93 ∨ b = 94 ∨ (137 ≤ b ∧ b ≤ 139) then 7 else 0
def gKf (k : Nat) : Nat := if k = 0 ∨ k = 1 ∨ k = 13 then 1 else if k = 2 then 2 else if k = 33 ∨ k = 40 ∨ k = 42 then 3 else if k = 50 ∨ k = 51 then 5 else if k = 57 then 6 else if k = 65 then 7 else 0
/-- all but part s stays -/
def gE (s : Nat) (w W : Nat → Nat → Int32) : Prop := (∀ b, b ≠ 95 → gK b ≠ 0 → gK b ≠ s → W b = w b) ∧ ∀ k, gKf k ≠ 0 → gKf k ≠ s → W 95 k = w 95 k
theorem gE_r (s : Nat) (w : Nat → Nat → Int32) : gE s w w := ⟨fun _ _ _ _ => rfl, fun _ _ _ => rfl⟩
theorem gE_t {s : Nat} {w W X : Nat → Nat → Int32} (h1 : gE s w W) (h2 : gE s W X) : gE s w X := ⟨fun b a1 a2 a3 => (h2.1 b a1 a2 a3).trans (h1.1 b a1 a2 a3), fun k a1 a2 => (h2.2 k a1 a2).trans (h1.2 k a1 a2)⟩
theorem gE_w {s b k : Nat} {x : Int32} {w W : Nat → Nat → Int32} (h : gE s w W) (hb : b ≠ 95) (hk : gK b = s) : gE s w (gw W b k x) :=
  ⟨fun c a1 a2 a3 => by rw [gw_ne (fun z => a3 (by rw [z]; exact hk))]; exact h.1 c a1 a2 a3, fun c a1 a2 => by rw [gw_ne (Ne.symm hb)]; exact h.2 c a1 a2⟩
theorem gE_95 {s k : Nat} {x : Int32} {w W : Nat → Nat → Int32} (h : gE s w W) (hk : gKf k = s ∨ gKf k = 0) : gE s w (gw W 95 k x) :=
  ⟨fun c a1 a2 a3 => by rw [gw_ne a1]; exact h.1 c a1 a2 a3, fun c a1 a2 => by rw [gw_at, if_neg (fun z => by rw [z] at a1 a2; exact hk.elim a2 a1)]; exact h.2 c a1 a2⟩
/-- the message -/
def gJ_g (w : Nat → Nat → Int32) (u : Int64 × (Nat → Int64)) (n k : Nat) (ms : Nat → Nat) : Prop := w 0 12 = nI k ∧ w 95 2 = nI k ∧ k ≤ 16 ∧ gm_P u.1 k ms ∧ (∀ i, i < k → w 105 i = nI (ms i) ∧ ms i < n) ∧ ∀ i j, i < k → j < k → ms i = ms j → i = j
/-- the tape and the last fault -/
def gJ_x (w : Nat → Nat → Int32) (tp : Nat → Nat) (nt : Nat) : Prop := gcx_T w tp nt ∧ gx_T w tp nt ∧ w 55 7 = w 95 40 ∧ w 55 8 = w 95 42
section
variable {w W : Nat → Nat → Int32} {u : Int64 × (Nat → Int64)} {q : Nat → Nat} {s n k nt N Ng nb T : Nat} {ms tp tl : Nat → Nat} {tm : Nat → Nat → Nat} {D : Nat → gy_D}
theorem gE_m (h : gE s w W) (hs : s ≠ 1) (J : gJ_m w n) : gJ_m W n := by
  refine gJ_m_eq J (fun b hb => ?_) (h.2 0 (by decide) (Ne.symm hs)) (h.2 1 (by decide) (Ne.symm hs)) (h.2 13 (by decide) (Ne.symm hs))
  have h1 : gK b = 1 := by
    unfold gJ_mc at hb
    simp only [Bool.or_eq_true, Bool.and_eq_true, Nat.ble_eq, beq_iff_eq] at hb
    unfold gK
    rw [if_pos (by omega)]
  refine h.1 b (fun z => ?_) (by rw [h1]; decide) (by rw [h1]; exact Ne.symm hs)
  rw [z] at h1
  exact absurd h1 (by decide)
theorem gE_g (h : gE s w W) (hs : s ≠ 2) (J : gJ_g w u n k ms) : gJ_g W u n k ms := by
  unfold gJ_g
  rw [h.1 0 (by decide) (by decide) (Ne.symm hs), h.1 105 (by decide) (by decide) (Ne.symm hs), h.2 2 (by decide) (Ne.symm hs)]
  exact J
theorem gE_x (h : gE s w W) (hs : s ≠ 3) (J : gJ_x w tp nt) : gJ_x W tp nt := by
  unfold gJ_x gcx_T gx_T
  rw [h.1 55 (by decide) (by decide) (Ne.symm hs), h.1 56 (by decide) (by decide) (Ne.symm hs), h.1 118 (by decide) (by decide) (Ne.symm hs), h.2 33 (by decide) (Ne.symm hs), h.2 40 (by decide) (Ne.symm hs), h.2 42 (by decide) (Ne.symm hs)]
  exact J
theorem gE_qm (h : gE s w W) (hs : s ≠ 4) {m : Nat} (hm : m < 7) {j : Nat} (hj : j ≤ 4) : W (gp_ma m + j) = w (gp_ma m + j) := by
  have key : gp_ma m + j ≠ 95 ∧ gK (gp_ma m + j) = 4 := gp_ma_7 (P := fun a => a + j ≠ 95 ∧ gK (a + j) = 4) (by rcases (show j = 0 ∨ j = 1 ∨ j = 2 ∨ j = 3 ∨ j = 4 by omega) with z | z | z | z | z <;> rw [z] <;> decide) (by rcases (show j = 0 ∨ j = 1 ∨ j = 2 ∨ j = 3 ∨ j = 4 by omega) with z | z | z | z | z <;> rw [z] <;> decide) (by rcases (show j = 0 ∨ j = 1 ∨ j = 2 ∨ j = 3 ∨ j = 4 by omega) with z | z | z | z | z <;> rw [z] <;> decide) (by rcases (show j = 0 ∨ j = 1 ∨ j = 2 ∨ j = 3 ∨ j = 4 by omega) with z | z | z | z | z <;> rw [z] <;> decide) (by rcases (show j = 0 ∨ j = 1 ∨ j = 2 ∨ j = 3 ∨ j = 4 by omega) with z | z | z | z | z <;> rw [z] <;> decide) (by rcases (show j = 0 ∨ j = 1 ∨ j = 2 ∨ j = 3 ∨ j = 4 by omega) with z | z | z | z | z <;> rw [z] <;> decide) (by rcases (show j = 0 ∨ j = 1 ∨ j = 2 ∨ j = 3 ∨ j = 4 by omega) with z | z | z | z | z <;> rw [z] <;> decide) hm
  exact h.1 _ key.1 (by rw [key.2]; decide) (by rw [key.2]; exact Ne.symm hs)
theorem gE_q (h : gE s w W) (hs : s ≠ 4) (J : gJ_q w q D) : gJ_q W q D := by
  have e : ∀ b, (107 ≤ b ∧ b ≤ 117) ∨ b = 121 ∨ b = 122 → W b = w b := fun b hb => by
    have h4 : gK b = 4 := by
      unfold gK
      rw [if_neg (by omega), if_neg (by omega), if_neg (by omega), if_pos (by omega)]
    exact h.1 b (by omega) (by rw [h4]; decide) (by rw [h4]; exact Ne.symm hs)
  refine ⟨J.1, fun k hk => ?_⟩
  obtain ⟨j1, j2, j3⟩ := J.2 k hk
  refine ⟨gm_R_eq ⟨fun b hb => by rw [e b (by omega)], fun b b1 b2 i _ => by rw [e b (by omega)], fun i _ => by rw [e 117 (by omega)]⟩ j1, gcm_eq (fun j hj => gE_qm h hs (J.1.1 k (by omega)) hj) j2, j3⟩
theorem gE_bi (h : gE s w W) (hs : s ≠ 5) (J : gJ_bi w N Ng) : gJ_bi W N Ng := by
  unfold gJ_bi
  rw [h.1 76 (by decide) (by decide) (Ne.symm hs), h.1 77 (by decide) (by decide) (Ne.symm hs), h.1 78 (by decide) (by decide) (Ne.symm hs), h.1 79 (by decide) (by decide) (Ne.symm hs), h.1 126 (by decide) (by decide) (Ne.symm hs), h.1 127 (by decide) (by decide) (Ne.symm hs), h.2 50 (by decide) (Ne.symm hs), h.2 51 (by decide) (Ne.symm hs)]
  exact J
theorem gE_s (h : gE s w W) (hs : s ≠ 6) (J : gJ_s w nb) : gJ_s W nb := by
  unfold gJ_s
  rw [h.1 83 (by decide) (by decide) (Ne.symm hs), h.1 84 (by decide) (by decide) (Ne.symm hs), h.1 85 (by decide) (by decide) (Ne.symm hs), h.1 86 (by decide) (by decide) (Ne.symm hs), h.1 87 (by decide) (by decide) (Ne.symm hs), h.1 88 (by decide) (by decide) (Ne.symm hs), h.1 89 (by decide) (by decide) (Ne.symm hs), h.1 90 (by decide) (by decide) (Ne.symm hs), h.1 130 (by decide) (by decide) (Ne.symm hs), h.1 131 (by decide) (by decide) (Ne.symm hs), h.1 132 (by decide) (by decide) (Ne.symm hs), h.1 133 (by decide) (by decide) (Ne.symm hs), h.1 134 (by decide) (by decide) (Ne.symm hs), h.1 135 (by decide) (by decide) (Ne.symm hs), h.1 136 (by decide) (by decide) (Ne.symm hs), h.2 57 (by decide) (Ne.symm hs)]
  exact J
theorem gE_tr (h : gE s w W) (hs : s ≠ 7) (J : gJ_t w u n T tl tm) : gJ_t W u n T tl tm := by
  unfold gJ_t
  rw [h.1 91 (by decide) (by decide) (Ne.symm hs), h.1 93 (by decide) (by decide) (Ne.symm hs), h.1 94 (by decide) (by decide) (Ne.symm hs), h.1 137 (by decide) (by decide) (Ne.symm hs), h.1 138 (by decide) (by decide) (Ne.symm hs), h.1 139 (by decide) (by decide) (Ne.symm hs), h.2 65 (by decide) (Ne.symm hs)]
  exact J
end
/-- what holds between two calls -/
def gI (w : Nat → Nat → Int32) (u : Int64 × (Nat → Int64)) (q : Nat → Nat) : Prop := ∃ (n k : Nat) (ms tp : Nat → Nat) (nt : Nat) (D : Nat → gy_D) (N Ng nb T : Nat) (tl : Nat → Nat) (tm : Nat → Nat → Nat), gJ_m w n ∧ gJ_g w u n k ms ∧ gJ_x w tp nt ∧ gJ_q w q D ∧ gJ_bi w N Ng ∧ gJ_s w nb ∧ gJ_t w u n T tl tm
/-- the class of the object at an address -/
def gl_c (V : gp_H) (a : Nat) : Option Nat := match gp_nth V a with
  | some (.inr (c, _)) => some c
  | _ => none
/-- one call: the class's, then the reference's; the same answer, and all holds again -/
def gSt (l : Launch) (G : gp_G) (d : Nat) (M1 M2 : gp_M) (as : List Value) (w : Nat → Nat → Int32) (u : Int64 × (Nat → Int64)) (q : Nat → Nat) : Prop :=
  gp_Cal l G (d + 60) M1 (.ref 0 :: as) (gv w u q) (fun r V => ∃ x : Int32, (r, gl_c V 95) = (some (Value.int x), some 12) ∧ gp_Cal l G (d + 60) M2 (.ref 95 :: as) V (fun r' V' => r' = some (.int x) ∧ ∃ w' u' q', V' = gv w' u' q' ∧ gI w' u' q'))
section
variable {as : List Value} {M1 M2 : gp_M}
theorem gs_RE {w W : Nat → Nat → Int32} (h : gs_R w W) : (∀ b, b ≠ 95 → b ≠ 83 → gK b ≠ 0 → W b = w b) ∧ ∀ k, gKf k ≠ 0 → W 95 k = w 95 k := by
  refine ⟨fun b h1 h2 h3 => ?_, fun k hk => ?_⟩
  · have key : ∀ b, b < 140 → gK b ≠ 0 → gs_b b = false := by decide
    by_cases hb : b < 140
    · exact h.1 b (key b hb h3) h2 h1
    · exfalso
      apply h3
      unfold gK
      rw [if_neg (by omega), if_neg (by omega), if_neg (by omega), if_neg (by omega), if_neg (by omega), if_neg (by omega), if_neg (by omega)]
  · have key : ∀ k, k < 66 → gKf k ≠ 0 → gs_k k = false := by decide
    by_cases hb : k < 66
    · exact h.2.1 k (key k hb hk)
    · exfalso
      apply hk
      unfold gKf
      rw [if_neg (by omega), if_neg (by omega), if_neg (by omega), if_neg (by omega), if_neg (by omega), if_neg (by omega)]
theorem gs_gE {w W : Nat → Nat → Int32} (h : gs_R w W) : gE 6 w W := ⟨fun b h1 h2 h3 => (gs_RE h).1 b h1 (fun z => h3 (by rw [z]; decide)) h2, fun k h1 _ => (gs_RE h).2 k h1⟩
/-- scratch cells may change -/
theorem gI_R {W : Nat → Nat → Int32} (h : gs_R w W) (I : gI w u q) : gI W u q := by
  obtain ⟨n, k, ms, tp, nt, D, N, Ng, nb, T, tl, tm, Jm, Jg, Jx, Jq, Jb, Js, Jt⟩ := I
  have e := gs_gE h
  exact ⟨n, k, ms, tp, nt, D, N, Ng, nb, T, tl, tm, gE_m e (by decide) Jm, gE_g e (by decide) Jg, gE_x e (by decide) Jx, gE_q e (by decide) Jq, gE_bi e (by decide) Jb, gJ_s_R h Js, gE_tr e (by decide) Jt⟩
/-- the two answers are the same number -/
theorem gI_end {w : Nat → Nat → Int32} {x y : Int32} (e : x = y) (I : gI w u q) : (some (Value.int x) = some (Value.int y)) ∧ ∃ w' u' q', gv w u q = gv w' u' q' ∧ gI w' u' q' := ⟨by rw [e], w, u, q, rfl, I⟩
end

end
