section
variable {l : Launch} {G : gp_G} {d : Nat} {w : Nat → Nat → Int32} {u : Int64 × (Nat → Int64)} {q : Nat → Nat} {K : Option Value → gp_H → Prop}
/-! ===== the class's parser: small pieces ===== -/
/-- what stays: tokens and all but the draft -/
def gpB (w : Nat → Nat → Int32) (tp : Nat → Nat) (n t : Nat) : Prop := w 55 5 = nI (t + 1) ∧ t ≤ 500 ∧ gcx_K w tp n (t + 1) ∧ gx_kd tp n t = 31 ∧ ∀ j, j < t → gx_kd tp n j ≠ 31
/-- what a piece of a text may change: place, fault, code from c on -/
def gEF (m : Nat) (w W : Nat → Nat → Int32) (c : Nat) : Prop := (∀ b, b ≠ 55 → b ≠ gp_ma m → b ≠ gp_ma m + 1 → W b = w b) ∧ (∀ k, k ≠ 6 → k ≠ 7 → k ≠ 8 → W 55 k = w 55 k) ∧ (∀ k, k ≠ 9 → W (gp_ma m) k = w (gp_ma m) k) ∧ ∀ x, x < c → W (gp_ma m + 1) x = w (gp_ma m + 1) x
theorem gp_ma_55 {m : Nat} (hm : m < 7) : ∀ j, j ≤ 4 → gp_ma m + j ≠ 55 := fun j hj => by have := gp_ma_n hm j hj; omega
section
variable {tp : Nat → Nat} {n t m : Nat}
theorem gEF_r (w : Nat → Nat → Int32) (c : Nat) : gEF m w w c := ⟨fun _ _ _ _ => rfl, fun _ _ _ _ => rfl, fun _ _ => rfl, fun _ _ => rfl⟩
theorem gEF_t {w W X : Nat → Nat → Int32} {c e : Nat} (h1 : gEF m w W c) (h2 : gEF m W X e) (h : c ≤ e) : gEF m w X c :=
  ⟨fun b a1 a2 a3 => (h2.1 b a1 a2 a3).trans (h1.1 b a1 a2 a3), fun k a1 a2 a3 => (h2.2.1 k a1 a2 a3).trans (h1.2.1 k a1 a2 a3), fun k a1 => (h2.2.2.1 k a1).trans (h1.2.2.1 k a1), fun x hx => (h2.2.2.2 x (by omega)).trans (h1.2.2.2 x hx)⟩
theorem gEF_55 {w W : Nat → Nat → Int32} {c k : Nat} {x : Int32} (hm : m < 7) (h : gEF m w W c) (hk : k = 6 ∨ k = 7 ∨ k = 8) : gEF m w (gw W 55 k x) c := by
  have a0 : gp_ma m ≠ 55 := gp_ma_55 hm 0 (by decide)
  have a1 := gp_ma_55 hm 1 (by decide)
  refine ⟨fun b b1 b2 b3 => by rw [gw_ne b1]; exact h.1 b b1 b2 b3, fun j j1 j2 j3 => by rw [gw_at, if_neg (by omega)]; exact h.2.1 j j1 j2 j3, fun j hj => by rw [gw_ne a0]; exact h.2.2.1 j hj, fun y hy => by rw [gw_ne a1]; exact h.2.2.2 y hy⟩
theorem gEF_cd {w W : Nat → Nat → Int32} {c k : Nat} {x y : Int32} (hm : m < 7) (h : gEF m w W c) (hk : c ≤ k) : gEF m w (gw (gw W (gp_ma m + 1) k x) (gp_ma m) 9 y) c := by
  have a0 : gp_ma m ≠ 55 := gp_ma_55 hm 0 (by decide)
  have a1 := gp_ma_55 hm 1 (by decide)
  refine ⟨fun b b1 b2 b3 => by rw [gw_ne b2, gw_ne b3]; exact h.1 b b1 b2 b3, fun j j1 j2 j3 => by rw [gw_ne (Ne.symm a0), gw_ne (Ne.symm a1)]; exact h.2.1 j j1 j2 j3, fun j hj => by rw [gw_at, if_neg hj, gw_ne (by omega)]; exact h.2.2.1 j hj, fun z hz => by rw [gw_ne (by omega), gw_at, if_neg (by omega)]; exact h.2.2.2 z hz⟩
theorem gEF_B {w W : Nat → Nat → Int32} {c : Nat} (hm : m < 7) (h : gEF m w W c) (B : gpB w tp n t) : gpB W tp n t := by
  obtain ⟨b1, b2, b3, b4, b5⟩ := B
  refine ⟨by rw [h.2.1 5 (by decide) (by decide) (by decide)]; exact b1, b2, ?_, b4, b5⟩
  have q : ∀ b, b = 57 ∨ b = 58 ∨ b = 59 → W b = w b := fun b hb => by
    have a0 := gp_ma_n hm 0 (by decide)
    have a1 := gp_ma_n hm 1 (by decide)
    exact h.1 b (by omega) (by omega) (by omega)
  unfold gcx_K
  rw [q 57 (by omega), q 58 (by omega), q 59 (by omega)]
  exact b3
theorem gpB_31 (B : gpB w tp n t) : ∀ {j : Nat}, t ≤ j → gx_kd tp n j = 31 := by
  intro j hj
  induction j with
  | zero => rw [show 0 = t by omega]; exact B.2.2.2.1
  | succ j ih =>
    by_cases e : t = j + 1
    · rw [← e]; exact B.2.2.2.1
    · exact gx_kd_end (ih (by omega))
theorem gpB_lt (B : gpB w tp n t) {j : Nat} (h : gx_kd tp n j ≠ 31) : j < t := Nat.not_le.mp (fun z => h (gpB_31 B z))
/-- no fault so far: at the j-th token, c steps laid -/
def gpO (m t : Nat) (W : Nat → Nat → Int32) (j c : Nat) : Prop := W 55 6 = nI j ∧ j ≤ t ∧ W 55 7 = 0 ∧ W 55 8 = -1 ∧ W (gp_ma m) 9 = nI c ∧ c ≤ 500
/-- a fault was met -/
def gpX (m : Nat) (W : Nat → Nat → Int32) (e p : Nat) : Prop := W 55 7 = nI e ∧ e ≠ 0 ∧ e < 4 ∧ W 55 8 = nI p ∧ ∃ c : Nat, c ≤ 500 ∧ W (gp_ma m) 9 = nI c
set_option maxRecDepth 100000 in
theorem sp_Pa_kind (B : gpB w tp n t) (h : ∀ k : Int32, (k = 30 → vp_in (w 55 6) 501) → (∀ j, w 55 6 = nI j → j ≤ t → k = nI (gx_kd tp n j)) → K (some (.int k)) (gv w u q)) : gp_Cal l G (d + 0) m_Pa_kind [.ref 55] (gv w u q) K := by
  refine gp_enter od_Pa_kind rfl ?_
  obtain ⟨b1, b2, b3, b4, b5⟩ := B
  (repeat refine gp_gc [] od_Pa_kind rfl rfl ?_)
  by_cases c1 : w 55 6 < 0
  · refine gb1_lt_t c1 ?_
    (repeat refine gp_gc [] od_Pa_kind rfl rfl ?_)
    refine h 31 (fun z => absurd z (by decide)) (fun j ej hj => ?_)
    rw [ej] at c1
    exact absurd c1 (nI_pos (by omega))
  refine gb1_lt_f c1 ?_
  (repeat refine gp_gc [] od_Pa_kind rfl rfl ?_)
  obtain ⟨i, hi, ei⟩ := nI_of c1
  by_cases c2 : t + 1 ≤ i
  · refine gb_ge_t (by rw [ei, b1]; exact nI_le c2 (by omega)) ?_
    (repeat refine gp_gc [] od_Pa_kind rfl rfl ?_)
    refine h 31 (fun z => absurd z (by decide)) (fun j ej hj => ?_)
    rw [ei] at ej
    have := (nI_eq hi (by omega)).mp ej
    omega
  · have iv : vp_in (w 55 6) 501 := by rw [ei]; exact vp_in_nI (by omega) (by decide)
    refine gb_ge_f (by rw [ei, b1]; exact nI_ge (by omega) (by omega)) ?_
    (repeat refine gp_gc [] od_Pa_kind rfl rfl ?_)
    refine And.intro iv ?_
    (repeat refine gp_gc [] od_Pa_kind rfl rfl ?_)
    refine h _ (fun _ => iv) (fun j ej hj => ?_)
    rw [ej, nI_clamp (by omega)]
    exact (b3 j (by omega)).1
set_option maxRecDepth 100000 in
theorem sp_Pa_fail {x : Int32} (B : gpB w tp n t) (hO : ∀ j, w 55 7 = 0 → w 55 6 = nI j → j ≤ t → K none (gv (gw (gw w 55 7 x) 55 8 (nI (gx_sp tp n j))) u q)) (hX : ¬ w 55 7 = 0 → K none (gv w u q)) (hj : w 55 7 = 0 → ∃ j, w 55 6 = nI j ∧ j ≤ t) : gp_Cal l G (d + 0) m_Pa_fail [.ref 55, .int x] (gv w u q) K := by
  refine gp_enter od_Pa_fail rfl ?_
  obtain ⟨b1, b2, b3, b4, b5⟩ := B
  (repeat refine gp_gc [] od_Pa_fail rfl rfl ?_)
  by_cases c0 : w 55 7 = 0
  · obtain ⟨j, ej, hjt⟩ := hj c0
    have hO := hO j c0 ej hjt
    have ij : vp_in (w 55 6) 501 := by rw [ej]; exact vp_in_nI (by omega) (by decide)
    have cj : (w 55 6).toNatClampNeg = j := by rw [ej]; exact nI_clamp (by omega)
    refine gb1_ne_f c0 ?_
    (repeat refine gp_gc [] od_Pa_fail rfl rfl ?_)
    refine gb1_lt_f (show ¬ w 55 6 < 0 by rw [ej]; exact nI_pos (by omega)) ?_
    (repeat refine gp_gc [] od_Pa_fail rfl rfl ?_)
    refine gb_ge_f (show ¬ w 55 5 ≤ w 55 6 by rw [ej, b1]; exact nI_ge (by omega) (by omega)) ?_
    (repeat refine gp_gc [] od_Pa_fail rfl rfl ?_)
    refine And.intro ij ?_
    (repeat refine gp_gc [] od_Pa_fail rfl rfl ?_)
    rw [← (b3 j (by omega)).2.2, ← cj] at hO
    exact hO
  · refine gb1_ne_t c0 ?_
    (repeat refine gp_gc [] od_Pa_fail rfl rfl ?_)
    exact hX c0
set_option maxRecDepth 100000 in
theorem sp_Pa_emit {op v : Int32} {c : Nat} (hm : q 6 < 7) (ec : w (gp_ma (q 6)) 9 = nI c) (hc : c ≤ 500) (h1 : c < 500 → K none (gv (gw (gw w (gp_ma (q 6) + 1) c (v <<< (4 &&& 31) ||| op)) (gp_ma (q 6)) 9 (nI (c + 1))) u q)) (h0 : ¬ c < 500 → K none (gv w u q)) : gp_Cal l G d m_Pa_emit [.ref 55, .int op, .int v] (gv w u q) K := by
  have cc : (w (gp_ma (q 6)) 9).toNatClampNeg = c := by rw [ec]; exact nI_clamp (by omega)
  have e1 : w (gp_ma (q 6)) 9 + Int32.ofInt 1 = nI (c + 1) := by rw [ec]; exact nI_1 c
  refine gp_enter od_Pa_emit rfl ?_
  (repeat refine gp_gc [] od_Pa_emit rfl rfl ?_)
  refine gs_get (gv_mind hm) rfl rfl ?_
  (repeat refine gp_gc [] od_Pa_emit rfl rfl ?_)
  refine gs_get (gv_mind hm) rfl rfl ?_
  (repeat refine gp_gc [] od_Pa_emit rfl rfl ?_)
  refine gs_len (gv_ma1 hm) ?_
  (repeat refine gp_gc [] od_Pa_emit rfl rfl ?_)
  by_cases c1 : c < 500
  · have h1 := h1 c1
    refine gb_ge_f (by rw [ec]; exact nI_ge (b := 500) c1 (by decide)) ?_
    (repeat refine gp_gc [] od_Pa_emit rfl rfl ?_)
    refine gs_get (gv_mind hm) rfl rfl ?_
    (repeat refine gp_gc [] od_Pa_emit rfl rfl ?_)
    refine gs_get (gv_mind hm) rfl rfl ?_
    (repeat refine gp_gc [] od_Pa_emit rfl rfl ?_)
    refine gs_ast (gv_ma1 hm) (by rw [ec]; exact vp_in_nI c1 (by decide)) ?_
    rw [gv_ma1_set hm, cc]
    (repeat refine gp_gc [] od_Pa_emit rfl rfl ?_)
    refine gs_get (gv_mind hm) rfl rfl ?_
    (repeat refine gp_gc [] od_Pa_emit rfl rfl ?_)
    rw [gw_ne (show gp_ma (q 6) ≠ gp_ma (q 6) + 1 by omega), e1]
    refine gs_put (gv_mind hm) rfl rfl ?_
    rw [gv_mind_set hm (by decide)]
    (repeat refine gp_gc [] od_Pa_emit rfl rfl ?_)
    exact h1
  · refine gb_ge_t (by rw [ec]; exact nI_le (a := 500) (by omega) (by omega)) ?_
    (repeat refine gp_gc [] od_Pa_emit rfl rfl ?_)
    exact h0 c1
theorem gc_word {op v : Nat} (ho : op < 16) (hv : v < 10000) : (nI v <<< (4 &&& 31) ||| nI op) &&& 15 = nI op ∧ (nI v <<< (4 &&& 31) ||| nI op) >>> (4 &&& 31) = nI v := by
  have e1 : nI v <<< ((4 : Int32) &&& 31) = nI (v * 2 ^ 4) := pk_shlN _ 4 (by decide) (by omega)
  have e2 : nI (v * 2 ^ 4) ||| nI op = nI (16 * v + op) := by
    rw [gk_or (by omega) (by omega)]
    congr 1
    have := Nat.shiftLeft_add_eq_or_of_lt (b := op) (i := 4) (by omega) v
    rw [Nat.shiftLeft_eq] at this
    rw [← this]
    omega
  rw [e1, e2]
  constructor
  · rw [pk_andN (by omega) 4 (by decide)]
    congr 1
    omega
  · rw [pk_shrN (by omega) _ 4 (by decide)]
    congr 1
    omega
/-- one step, as it is laid -/
theorem gc_seg_1 {f : Nat → Int32} {c op v k : Nat} (hv : v < 10000) (hop : k < 24) (e : f c = nI v <<< (4 &&& 31) ||| nI op) (ho : op < 16) (h1 : nI op = gc_oc k) (x : Int32) (h2 : k = 0 ∨ k = 17 → x = nI v) (h3 : 1 ≤ k → k < 14 → v = k - 1) : gc_seg f c [(k, x)] := by
  have gw := gc_word ho hv
  refine ⟨by rw [e, gw.1]; exact h1, fun z => by rw [e, gw.2]; exact (h2 z).symm, fun z1 z2 => by rw [e, gw.2, h3 z1 z2], hop, trivial⟩
theorem gc_seg_app {f : Nat → Int32} : ∀ {A B : gf_L} {i : Nat}, gc_seg f i A → gc_seg f (i + A.length) B → gc_seg f i (A ++ B)
  | [], B, i, _, h => h
  | (op, v) :: A, B, i, h1, h2 => by
    obtain ⟨a, b, c, e, h⟩ := h1
    refine ⟨a, b, c, e, gc_seg_app (A := A) h ?_⟩
    rw [show i + 1 + A.length = i + ((op, v) :: A).length by simp only [List.length_cons]; omega]
    exact h2
theorem gc_seg_cg {f g : Nat → Int32} {e : Nat} (h : ∀ x, x < e → g x = f x) : ∀ {L : gf_L} {i : Nat}, i + L.length ≤ e → gc_seg f i L → gc_seg g i L
  | [], _, _, _ => trivial
  | (op, v) :: L, i, hi, hs => by
    simp only [List.length_cons] at hi
    obtain ⟨a, b, c, d, hs⟩ := hs
    rw [← h i (by omega)] at a b c
    exact ⟨a, b, c, d, gc_seg_cg h (L := L) (by omega) hs⟩
end

end
